def JN (g : Gm) (E : Ev) (A : Nat → Prop) (Q : State → Prop) (nm : String) (b t xx mm oc nx ia ms ot my co bd bk oh rd mk rw ss ka sa ma oa ba h0 r0 t0 c0 k0 x0 la : Nat) : Prop := ∀ (nk ml on : Nat) (tr : Int64) (kr sr : Nat → Option Nat) (ko : Nat → Nat → Int32) (kn : Nat → Nat) (kc sc : Nat → Int64) (sb : Nat → Nat) (sl msg ov bl f tn sk res : Nat → Int32) (fi cd : Int32) (foc fnx frd fbk foh fmk frw fot fmy fbd : Nat → Int32) (fis fco fl : Nat → Int64) (L : List Nat) (F : Nat → va_E), LI E L F kr sr nk ml on ko kn kc sc sb sl msg ov fot foc fnx fbd fmy fis fco → G g (muL nm) E A (100 + 8 * t + 8) (4000 + 64 * t + 64) Q [(xx, .inr (6, [.ref ka, .int (nI (nk)), .ref sa, .long (tr), .ref ma, .int (nI (ml)), .ref oa, .int (nI (on)), .ref ba, .ref h0, .ref c0])), (mm, .inr (7, [.int (cd), .int (nI (nk)), .ref oc, .ref nx, .ref ia, .ref ms, .int (nI (ml)), .int (nI (on)), .ref ot, .long (tr), .ref my, .ref co, .ref bd, .ref bk, .ref oh, .ref rd, .ref mk, .ref rw, .ref ss])), (oc, aI E 272 (foc)), (nx, aI E 17 (fnx)), (ia, aJ E 17 (fis)), (ms, aI E 300 (msg)), (ot, aI E 16 (fot)), (my, aZ E 1105 (fmy)), (co, aJ E 65 (fco)), (bd, aI E 65 (fbd)), (bk, aI E 16 (fbk)), (oh, aI E 16 (foh)), (rd, aI E 176 (frd)), (mk, aI E 16 (fmk)), (rw, aI E 320 (frw)), (ss, aI E 256 (TB)), (ka, aK E 16 (kr)), (sa, aS E 64 (sr)), (ma, aI E 300 (msg)), (oa, aI E 16 (ov)), (ba, aI E 16 (bl)), (h0, .inr (2, [.ref r0, .ref t0])), (r0, aI E 176 (f)), (t0, aI E 16 (tn)), (c0, .inr (3, [.ref h0, .ref k0, .ref x0, .int (fi)])), (k0, aI E 16 (sk)), (x0, aI E 16 (res)), (la, aJ E 1 (fl))] L F 639 [(0, .ref b), (1, .ref xx), (2, .ref mm), (3, .ref la), (4, .int (nI (5 * t)))] []
set_option maxHeartbeats 4000000 in
set_option maxRecDepth 100000 in
theorem law_c0 {g : Gm} {E : Ev} {A : Nat → Prop} {Q : State → Prop} {nm : String} {b N t : Nat} {xs : Nat → Int32} {xx mm oc nx ia ms ot my co bd bk oh rd mk rw ss ka sa ma oa ba h0 r0 t0 c0 k0 x0 la : Nat} (C : Cx g (muL nm) E A) (T : TT A (gs g) (gs g).heap) (hl : (gl g).stackTraces = false) (hS : SC g A b N xs) (hN : N ≤ 2560) (ht : 5 * t + 5 ≤ N) (y1 y2 y3 y4 : Int32) (hy1 : xs (5 * t + 1) = y1) (hy2 : xs (5 * t + 2) = y2) (hy3 : xs (5 * t + 3) = y3) (hy4 : xs (5 * t + 4) = y4) (nk ml on : Nat) (tr : Int64) (kr sr : Nat → Option Nat) (ko : Nat → Nat → Int32) (kn : Nat → Nat) (kc sc : Nat → Int64) (sb : Nat → Nat) (sl msg ov bl f tn sk res : Nat → Int32) (fi cd : Int32) (foc fnx frd fbk foh fmk frw fot fmy fbd : Nat → Int32) (fis fco fl : Nat → Int64) (L : List Nat) (F : Nat → va_E) (I : LI E L F kr sr nk ml on ko kn kc sc sb sl msg ov fot foc fnx fbd fmy fis fco) (jn : JN g E A Q nm b t xx mm oc nx ia ms ot my co bd bk oh rd mk rw ss ka sa ma oa ba h0 r0 t0 c0 k0 x0 la) : G g (muL nm) E A (100 + 8 * t) (4000 + 64 * t) Q [(xx, .inr (6, [.ref ka, .int (nI (nk)), .ref sa, .long (tr), .ref ma, .int (nI (ml)), .ref oa, .int (nI (on)), .ref ba, .ref h0, .ref c0])), (mm, .inr (7, [.int (cd), .int (nI (nk)), .ref oc, .ref nx, .ref ia, .ref ms, .int (nI (ml)), .int (nI (on)), .ref ot, .long (tr), .ref my, .ref co, .ref bd, .ref bk, .ref oh, .ref rd, .ref mk, .ref rw, .ref ss])), (oc, aI E 272 (foc)), (nx, aI E 17 (fnx)), (ia, aJ E 17 (fis)), (ms, aI E 300 (msg)), (ot, aI E 16 (fot)), (my, aZ E 1105 (fmy)), (co, aJ E 65 (fco)), (bd, aI E 65 (fbd)), (bk, aI E 16 (fbk)), (oh, aI E 16 (foh)), (rd, aI E 176 (frd)), (mk, aI E 16 (fmk)), (rw, aI E 320 (frw)), (ss, aI E 256 (TB)), (ka, aK E 16 (kr)), (sa, aS E 64 (sr)), (ma, aI E 300 (msg)), (oa, aI E 16 (ov)), (ba, aI E 16 (bl)), (h0, .inr (2, [.ref r0, .ref t0])), (r0, aI E 176 (f)), (t0, aI E 16 (tn)), (c0, .inr (3, [.ref h0, .ref k0, .ref x0, .int (fi)])), (k0, aI E 16 (sk)), (x0, aI E 16 (res)), (la, aJ E 1 (fl))] L F 100 [(0, .ref b), (1, .ref xx), (2, .ref mm), (3, .ref la), (4, .int (nI (5 * t)))] [] := by
  obtain ⟨hnk, hml, hon, hmsg, hot, hPS, hMK, hMS, hSO⟩ := I
  refine g_aload_n C dL_law_100 rfl 1 rfl ?_
  refine g_callV (v := muX4_key) (cx := [(xx, .inr (6, [.ref ka, .int (nI (nk)), .ref sa, .long (tr), .ref ma, .int (nI (ml)), .ref oa, .int (nI (on)), .ref ba, .ref h0, .ref c0])), (ka, aK E 16 (kr))]) C (k_X4_key (gl g) E xx ka sa ma oa ba h0 c0 nk ml on tr kr sr ko kn kc sc sb sl L F hnk hPS) [0, 16] rfl (by decide) 0 rfl rfl gi_L_19 hd_X4_key ⟨Nat.le_of_ble_eq_true rfl, Nat.le_of_ble_eq_true rfl⟩ rfl rfl (Nat.le_of_ble_eq_true rfl) ⟨by show 100 + 8 * t + 2 ≤ 603072; omega, by show 4000 + 64 * t + 19 ≤ 7190633; omega⟩ dL_law_101 (fun r9 cx9 L9 F9 hp9 hf9 hN9 => ?_)
  obtain ⟨nk1, kr1, r1, L1, F1, ko1, kn1, kc1, rfl, rfl, rfl, rfl, hps1, he1⟩ := hp9
  show G g (muL nm) E A (100 + 8 * t + 2) (4000 + 64 * t + 19) Q [(xx, .inr (6, [.ref ka, .int (nI (nk1)), .ref sa, .long (tr), .ref ma, .int (nI (ml)), .ref oa, .int (nI (on)), .ref ba, .ref h0, .ref c0])), (mm, .inr (7, [.int (cd), .int (nI (nk)), .ref oc, .ref nx, .ref ia, .ref ms, .int (nI (ml)), .int (nI (on)), .ref ot, .long (tr), .ref my, .ref co, .ref bd, .ref bk, .ref oh, .ref rd, .ref mk, .ref rw, .ref ss])), (oc, aI E 272 (foc)), (nx, aI E 17 (fnx)), (ia, aJ E 17 (fis)), (ms, aI E 300 (msg)), (ot, aI E 16 (fot)), (my, aZ E 1105 (fmy)), (co, aJ E 65 (fco)), (bd, aI E 65 (fbd)), (bk, aI E 16 (fbk)), (oh, aI E 16 (foh)), (rd, aI E 176 (frd)), (mk, aI E 16 (fmk)), (rw, aI E 320 (frw)), (ss, aI E 256 (TB)), (ka, aK E 16 (kr1)), (sa, aS E 64 (sr)), (ma, aI E 300 (msg)), (oa, aI E 16 (ov)), (ba, aI E 16 (bl)), (h0, .inr (2, [.ref r0, .ref t0])), (r0, aI E 176 (f)), (t0, aI E 16 (tn)), (c0, .inr (3, [.ref h0, .ref k0, .ref x0, .int (fi)])), (k0, aI E 16 (sk)), (x0, aI E 16 (res)), (la, aJ E 1 (fl))] L1 F1 104 [(0, .ref b), (1, .ref xx), (2, .ref mm), (3, .ref la), (4, .int (nI (5 * t)))] [.int (r1)]
  refine g_aload_n C dL_law_104 rfl 2 rfl ?_
  refine g_callV (v := muX5_key) (cx := [(mm, .inr (7, [.int (cd), .int (nI (nk)), .ref oc, .ref nx, .ref ia, .ref ms, .int (nI (ml)), .int (nI (on)), .ref ot, .long (tr), .ref my, .ref co, .ref bd, .ref bk, .ref oh, .ref rd, .ref mk, .ref rw, .ref ss]))]) C (k_X5_key (gl g) E mm oc nx ia ms ot my co bd bk oh rd mk rw ss cd nk ml on tr ko kn kc L1 F1 hnk) [1] rfl (by decide) 1 rfl rfl gi_L_23 hd_X5_key ⟨Nat.le_of_ble_eq_true rfl, Nat.le_of_ble_eq_true rfl⟩ rfl rfl (Nat.le_of_ble_eq_true rfl) ⟨by show 100 + 8 * t + 2 + 0 ≤ 603072; omega, by show 4000 + 64 * t + 19 + 0 ≤ 7190633; omega⟩ dL_law_105 (fun r9 cx9 L9 F9 hp9 hf9 hN9 => ?_)
  obtain ⟨nk2, rfl, rfl, rfl, rfl, hm2⟩ := hp9
  show G g (muL nm) E A (100 + 8 * t + 2) (4000 + 64 * t + 19) Q [(xx, .inr (6, [.ref ka, .int (nI (nk1)), .ref sa, .long (tr), .ref ma, .int (nI (ml)), .ref oa, .int (nI (on)), .ref ba, .ref h0, .ref c0])), (mm, .inr (7, [.int (nI 0), .int (nI (nk2)), .ref oc, .ref nx, .ref ia, .ref ms, .int (nI (ml)), .int (nI (on)), .ref ot, .long (tr), .ref my, .ref co, .ref bd, .ref bk, .ref oh, .ref rd, .ref mk, .ref rw, .ref ss])), (oc, aI E 272 (foc)), (nx, aI E 17 (fnx)), (ia, aJ E 17 (fis)), (ms, aI E 300 (msg)), (ot, aI E 16 (fot)), (my, aZ E 1105 (fmy)), (co, aJ E 65 (fco)), (bd, aI E 65 (fbd)), (bk, aI E 16 (fbk)), (oh, aI E 16 (foh)), (rd, aI E 176 (frd)), (mk, aI E 16 (fmk)), (rw, aI E 320 (frw)), (ss, aI E 256 (TB)), (ka, aK E 16 (kr1)), (sa, aS E 64 (sr)), (ma, aI E 300 (msg)), (oa, aI E 16 (ov)), (ba, aI E 16 (bl)), (h0, .inr (2, [.ref r0, .ref t0])), (r0, aI E 176 (f)), (t0, aI E 16 (tn)), (c0, .inr (3, [.ref h0, .ref k0, .ref x0, .int (fi)])), (k0, aI E 16 (sk)), (x0, aI E 16 (res)), (la, aJ E 1 (fl))] L1 F1 108 [(0, .ref b), (1, .ref xx), (2, .ref mm), (3, .ref la), (4, .int (nI (5 * t)))] [.int ((keyS nk ko kn kc).1), .int (r1)]
  refine g_icmp_eq (tgt := 639) C dL_law_108 (by decide) (fun c108 => ?_) (fun c108 => ?_)
  · skip
    have hk1 := key_ok hnk hMK
    obtain rfl : nk1 = nk2 := by rw [hm2, ← he1]
    rw [← he1] at hk1
    refine g_cells (ce' := 100 + 8 * t + 8) (sl' := 4000 + 64 * t + 64) (by omega) (by omega) ?_
    exact jn nk1 ml on tr kr1 sr ko1 kn1 kc1 sc sb sl msg ov bl f tn sk res fi (nI 0) foc fnx frd fbk foh fmk frw fot fmy fbd fis fco fl L1 F1 ⟨hk1.1, hml, hon, hmsg, hot, hps1, hk1.2, hMS, hSO⟩
  · skip
    exact absurd (congrArg Prod.fst he1) c108
set_option maxHeartbeats 4000000 in
set_option maxRecDepth 100000 in
theorem law_c1 {g : Gm} {E : Ev} {A : Nat → Prop} {Q : State → Prop} {nm : String} {b N t : Nat} {xs : Nat → Int32} {xx mm oc nx ia ms ot my co bd bk oh rd mk rw ss ka sa ma oa ba h0 r0 t0 c0 k0 x0 la : Nat} (C : Cx g (muL nm) E A) (T : TT A (gs g) (gs g).heap) (hl : (gl g).stackTraces = false) (hS : SC g A b N xs) (hN : N ≤ 2560) (ht : 5 * t + 5 ≤ N) (y1 y2 y3 y4 : Int32) (hy1 : xs (5 * t + 1) = y1) (hy2 : xs (5 * t + 2) = y2) (hy3 : xs (5 * t + 3) = y3) (hy4 : xs (5 * t + 4) = y4) (nk ml on : Nat) (tr : Int64) (kr sr : Nat → Option Nat) (ko : Nat → Nat → Int32) (kn : Nat → Nat) (kc sc : Nat → Int64) (sb : Nat → Nat) (sl msg ov bl f tn sk res : Nat → Int32) (fi cd : Int32) (foc fnx frd fbk foh fmk frw fot fmy fbd : Nat → Int32) (fis fco fl : Nat → Int64) (L : List Nat) (F : Nat → va_E) (I : LI E L F kr sr nk ml on ko kn kc sc sb sl msg ov fot foc fnx fbd fmy fis fco) (jn : JN g E A Q nm b t xx mm oc nx ia ms ot my co bd bk oh rd mk rw ss ka sa ma oa ba h0 r0 t0 c0 k0 x0 la) : G g (muL nm) E A (100 + 8 * t) (4000 + 64 * t) Q [(xx, .inr (6, [.ref ka, .int (nI (nk)), .ref sa, .long (tr), .ref ma, .int (nI (ml)), .ref oa, .int (nI (on)), .ref ba, .ref h0, .ref c0])), (mm, .inr (7, [.int (cd), .int (nI (nk)), .ref oc, .ref nx, .ref ia, .ref ms, .int (nI (ml)), .int (nI (on)), .ref ot, .long (tr), .ref my, .ref co, .ref bd, .ref bk, .ref oh, .ref rd, .ref mk, .ref rw, .ref ss])), (oc, aI E 272 (foc)), (nx, aI E 17 (fnx)), (ia, aJ E 17 (fis)), (ms, aI E 300 (msg)), (ot, aI E 16 (fot)), (my, aZ E 1105 (fmy)), (co, aJ E 65 (fco)), (bd, aI E 65 (fbd)), (bk, aI E 16 (fbk)), (oh, aI E 16 (foh)), (rd, aI E 176 (frd)), (mk, aI E 16 (fmk)), (rw, aI E 320 (frw)), (ss, aI E 256 (TB)), (ka, aK E 16 (kr)), (sa, aS E 64 (sr)), (ma, aI E 300 (msg)), (oa, aI E 16 (ov)), (ba, aI E 16 (bl)), (h0, .inr (2, [.ref r0, .ref t0])), (r0, aI E 176 (f)), (t0, aI E 16 (tn)), (c0, .inr (3, [.ref h0, .ref k0, .ref x0, .int (fi)])), (k0, aI E 16 (sk)), (x0, aI E 16 (res)), (la, aJ E 1 (fl))] L F 113 [(0, .ref b), (1, .ref xx), (2, .ref mm), (3, .ref la), (4, .int (nI (5 * t)))] [] := by
  obtain ⟨hnk, hml, hon, hmsg, hot, hPS, hMK, hMS, hSO⟩ := I
  refine g_aload_n C dL_law_113 rfl 1 rfl ?_
  refine g_aload_n C dL_law_114 rfl 0 rfl ?_
  refine g_iload C dL_law_115 4 rfl ?_
  refine g_iconst (v := nI (1)) C dL_law_117 (by decide) ?_
  refine g_iadd C dL_law_118 ?_
  refine g_asi (nI_add _ _) ?_
  refine g_sld C hS (by omega) (by omega) dL_law_119 ?_
  refine g_asi (show (xs ((5 * t) + 1)) = (y1) from hy1) ?_
  refine g_aload_n C dL_law_120 rfl 0 rfl ?_
  refine g_iload C dL_law_121 4 rfl ?_
  refine g_iconst (v := nI (2)) C dL_law_123 (by decide) ?_
  refine g_iadd C dL_law_124 ?_
  refine g_asi (nI_add _ _) ?_
  refine g_sld C hS (by omega) (by omega) dL_law_125 ?_
  refine g_asi (show (xs ((5 * t) + 2)) = (y2) from hy2) ?_
  refine g_i2b (v := (y2).toInt8.toInt32) C dL_law_126 rfl ?_
  refine g_callV (v := muX4_keyByte) (cx := [(xx, .inr (6, [.ref ka, .int (nI (nk)), .ref sa, .long (tr), .ref ma, .int (nI (ml)), .ref oa, .int (nI (on)), .ref ba, .ref h0, .ref c0])), (ka, aK E 16 (kr))]) C (k_X4_keyByte (gl g) E xx ka sa ma oa ba h0 c0 nk ml on tr kr sr ko kn kc sc sb sl y1 y2.toInt8.toInt32 L F hnk hPS) [0, 16] rfl (by decide) 0 rfl rfl gi_L_24 hd_X4_keyByte ⟨Nat.le_of_ble_eq_true rfl, Nat.le_of_ble_eq_true rfl⟩ rfl rfl (Nat.le_of_ble_eq_true rfl) ⟨by show 100 + 8 * t + 0 ≤ 603072; omega, by show 4000 + 64 * t + 0 ≤ 7190633; omega⟩ dL_law_127 (fun r9 cx9 L9 F9 hp9 hf9 hN9 => ?_)
  obtain ⟨F1, ko1, kn1, rfl, rfl, rfl, rfl, hps1, he1⟩ := hp9
  show G g (muL nm) E A (100 + 8 * t) (4000 + 64 * t) Q [(xx, .inr (6, [.ref ka, .int (nI (nk)), .ref sa, .long (tr), .ref ma, .int (nI (ml)), .ref oa, .int (nI (on)), .ref ba, .ref h0, .ref c0])), (mm, .inr (7, [.int (cd), .int (nI (nk)), .ref oc, .ref nx, .ref ia, .ref ms, .int (nI (ml)), .int (nI (on)), .ref ot, .long (tr), .ref my, .ref co, .ref bd, .ref bk, .ref oh, .ref rd, .ref mk, .ref rw, .ref ss])), (oc, aI E 272 (foc)), (nx, aI E 17 (fnx)), (ia, aJ E 17 (fis)), (ms, aI E 300 (msg)), (ot, aI E 16 (fot)), (my, aZ E 1105 (fmy)), (co, aJ E 65 (fco)), (bd, aI E 65 (fbd)), (bk, aI E 16 (fbk)), (oh, aI E 16 (foh)), (rd, aI E 176 (frd)), (mk, aI E 16 (fmk)), (rw, aI E 320 (frw)), (ss, aI E 256 (TB)), (ka, aK E 16 (kr)), (sa, aS E 64 (sr)), (ma, aI E 300 (msg)), (oa, aI E 16 (ov)), (ba, aI E 16 (bl)), (h0, .inr (2, [.ref r0, .ref t0])), (r0, aI E 176 (f)), (t0, aI E 16 (tn)), (c0, .inr (3, [.ref h0, .ref k0, .ref x0, .int (fi)])), (k0, aI E 16 (sk)), (x0, aI E 16 (res)), (la, aJ E 1 (fl))] L F1 130 [(0, .ref b), (1, .ref xx), (2, .ref mm), (3, .ref la), (4, .int (nI (5 * t)))] []
  refine g_aload_n C dL_law_130 rfl 2 rfl ?_
  refine g_aload_n C dL_law_131 rfl 0 rfl ?_
  refine g_iload C dL_law_132 4 rfl ?_
  refine g_iconst (v := nI (1)) C dL_law_134 (by decide) ?_
  refine g_iadd C dL_law_135 ?_
  refine g_asi (nI_add _ _) ?_
  refine g_sld C hS (by omega) (by omega) dL_law_136 ?_
  refine g_asi (show (xs ((5 * t) + 1)) = (y1) from hy1) ?_
  refine g_aload_n C dL_law_137 rfl 0 rfl ?_
  refine g_iload C dL_law_138 4 rfl ?_
  refine g_iconst (v := nI (2)) C dL_law_140 (by decide) ?_
  refine g_iadd C dL_law_141 ?_
  refine g_asi (nI_add _ _) ?_
  refine g_sld C hS (by omega) (by omega) dL_law_142 ?_
  refine g_asi (show (xs ((5 * t) + 2)) = (y2) from hy2) ?_
  refine g_i2b (v := (y2).toInt8.toInt32) C dL_law_143 rfl ?_
  refine g_callV (v := muX5_keyByte) (cx := [(mm, .inr (7, [.int (cd), .int (nI (nk)), .ref oc, .ref nx, .ref ia, .ref ms, .int (nI (ml)), .int (nI (on)), .ref ot, .long (tr), .ref my, .ref co, .ref bd, .ref bk, .ref oh, .ref rd, .ref mk, .ref rw, .ref ss])), (oc, aI E 272 (foc)), (nx, aI E 17 (fnx))]) C (k_X5_keyByte (gl g) E mm oc nx ia ms ot my co bd bk oh rd mk rw ss cd nk ml on tr foc fnx fis ko kn kc y1 y2.toInt8.toInt32 L F1 hnk hMK) [1, 2, 3] rfl (by decide) 1 rfl rfl gi_L_28 hd_X5_keyByte ⟨Nat.le_of_ble_eq_true rfl, Nat.le_of_ble_eq_true rfl⟩ rfl rfl (Nat.le_of_ble_eq_true rfl) ⟨by show 100 + 8 * t + 0 ≤ 603072; omega, by show 4000 + 64 * t + 0 ≤ 7190633; omega⟩ dL_law_144 (fun r9 cx9 L9 F9 hp9 hf9 hN9 => ?_)
  obtain ⟨foc1, fnx1, rfl, rfl, rfl, rfl, hm2⟩ := hp9
  show G g (muL nm) E A (100 + 8 * t) (4000 + 64 * t) Q [(xx, .inr (6, [.ref ka, .int (nI (nk)), .ref sa, .long (tr), .ref ma, .int (nI (ml)), .ref oa, .int (nI (on)), .ref ba, .ref h0, .ref c0])), (mm, .inr (7, [.int (nI 0), .int (nI (nk)), .ref oc, .ref nx, .ref ia, .ref ms, .int (nI (ml)), .int (nI (on)), .ref ot, .long (tr), .ref my, .ref co, .ref bd, .ref bk, .ref oh, .ref rd, .ref mk, .ref rw, .ref ss])), (oc, aI E 272 (foc1)), (nx, aI E 17 (fnx1)), (ia, aJ E 17 (fis)), (ms, aI E 300 (msg)), (ot, aI E 16 (fot)), (my, aZ E 1105 (fmy)), (co, aJ E 65 (fco)), (bd, aI E 65 (fbd)), (bk, aI E 16 (fbk)), (oh, aI E 16 (foh)), (rd, aI E 176 (frd)), (mk, aI E 16 (fmk)), (rw, aI E 320 (frw)), (ss, aI E 256 (TB)), (ka, aK E 16 (kr)), (sa, aS E 64 (sr)), (ma, aI E 300 (msg)), (oa, aI E 16 (ov)), (ba, aI E 16 (bl)), (h0, .inr (2, [.ref r0, .ref t0])), (r0, aI E 176 (f)), (t0, aI E 16 (tn)), (c0, .inr (3, [.ref h0, .ref k0, .ref x0, .int (fi)])), (k0, aI E 16 (sk)), (x0, aI E 16 (res)), (la, aJ E 1 (fl))] L F1 147 [(0, .ref b), (1, .ref xx), (2, .ref mm), (3, .ref la), (4, .int (nI (5 * t)))] []
  refine g_goto (tgt := 639) C dL_law_147 (by decide) ?_
  rw [← he1] at hm2
  refine g_cells (ce' := 100 + 8 * t + 8) (sl' := 4000 + 64 * t + 64) (by omega) (by omega) ?_
  exact jn nk ml on tr kr sr ko1 kn1 kc sc sb sl msg ov bl f tn sk res fi (nI 0) foc1 fnx1 frd fbk foh fmk frw fot fmy fbd fis fco fl L F1 ⟨hnk, hml, hon, hmsg, hot, hps1, hm2, hMS, hSO⟩
set_option maxHeartbeats 4000000 in
set_option maxRecDepth 100000 in
theorem law_c2 {g : Gm} {E : Ev} {A : Nat → Prop} {Q : State → Prop} {nm : String} {b N t : Nat} {xs : Nat → Int32} {xx mm oc nx ia ms ot my co bd bk oh rd mk rw ss ka sa ma oa ba h0 r0 t0 c0 k0 x0 la : Nat} (C : Cx g (muL nm) E A) (T : TT A (gs g) (gs g).heap) (hl : (gl g).stackTraces = false) (hS : SC g A b N xs) (hN : N ≤ 2560) (ht : 5 * t + 5 ≤ N) (y1 y2 y3 y4 : Int32) (hy1 : xs (5 * t + 1) = y1) (hy2 : xs (5 * t + 2) = y2) (hy3 : xs (5 * t + 3) = y3) (hy4 : xs (5 * t + 4) = y4) (nk ml on : Nat) (tr : Int64) (kr sr : Nat → Option Nat) (ko : Nat → Nat → Int32) (kn : Nat → Nat) (kc sc : Nat → Int64) (sb : Nat → Nat) (sl msg ov bl f tn sk res : Nat → Int32) (fi cd : Int32) (foc fnx frd fbk foh fmk frw fot fmy fbd : Nat → Int32) (fis fco fl : Nat → Int64) (L : List Nat) (F : Nat → va_E) (I : LI E L F kr sr nk ml on ko kn kc sc sb sl msg ov fot foc fnx fbd fmy fis fco) (jn : JN g E A Q nm b t xx mm oc nx ia ms ot my co bd bk oh rd mk rw ss ka sa ma oa ba h0 r0 t0 c0 k0 x0 la) : G g (muL nm) E A (100 + 8 * t) (4000 + 64 * t) Q [(xx, .inr (6, [.ref ka, .int (nI (nk)), .ref sa, .long (tr), .ref ma, .int (nI (ml)), .ref oa, .int (nI (on)), .ref ba, .ref h0, .ref c0])), (mm, .inr (7, [.int (cd), .int (nI (nk)), .ref oc, .ref nx, .ref ia, .ref ms, .int (nI (ml)), .int (nI (on)), .ref ot, .long (tr), .ref my, .ref co, .ref bd, .ref bk, .ref oh, .ref rd, .ref mk, .ref rw, .ref ss])), (oc, aI E 272 (foc)), (nx, aI E 17 (fnx)), (ia, aJ E 17 (fis)), (ms, aI E 300 (msg)), (ot, aI E 16 (fot)), (my, aZ E 1105 (fmy)), (co, aJ E 65 (fco)), (bd, aI E 65 (fbd)), (bk, aI E 16 (fbk)), (oh, aI E 16 (foh)), (rd, aI E 176 (frd)), (mk, aI E 16 (fmk)), (rw, aI E 320 (frw)), (ss, aI E 256 (TB)), (ka, aK E 16 (kr)), (sa, aS E 64 (sr)), (ma, aI E 300 (msg)), (oa, aI E 16 (ov)), (ba, aI E 16 (bl)), (h0, .inr (2, [.ref r0, .ref t0])), (r0, aI E 176 (f)), (t0, aI E 16 (tn)), (c0, .inr (3, [.ref h0, .ref k0, .ref x0, .int (fi)])), (k0, aI E 16 (sk)), (x0, aI E 16 (res)), (la, aJ E 1 (fl))] L F 150 [(0, .ref b), (1, .ref xx), (2, .ref mm), (3, .ref la), (4, .int (nI (5 * t)))] [] := by
  obtain ⟨hnk, hml, hon, hmsg, hot, hPS, hMK, hMS, hSO⟩ := I
  refine g_aload_n C dL_law_150 rfl 1 rfl ?_
  refine g_aload_n C dL_law_151 rfl 0 rfl ?_
  refine g_iload C dL_law_152 4 rfl ?_
  refine g_iconst (v := nI (1)) C dL_law_154 (by decide) ?_
  refine g_iadd C dL_law_155 ?_
  refine g_asi (nI_add _ _) ?_
  refine g_sld C hS (by omega) (by omega) dL_law_156 ?_
  refine g_asi (show (xs ((5 * t) + 1)) = (y1) from hy1) ?_
  refine g_i2b (v := (y1).toInt8.toInt32) C dL_law_157 rfl ?_
  refine g_callV (v := muX4_octet) (cx := [(xx, .inr (6, [.ref ka, .int (nI (nk)), .ref sa, .long (tr), .ref ma, .int (nI (ml)), .ref oa, .int (nI (on)), .ref ba, .ref h0, .ref c0])), (ma, aI E 300 (msg))]) C (k_X4_octet (gl g) E xx ka sa ma oa ba h0 c0 nk ml on tr msg y1.toInt8.toInt32 L F hml) [0, 18] rfl (by decide) 0 rfl rfl gi_L_29 hd_X4_octet ⟨Nat.le_of_ble_eq_true rfl, Nat.le_of_ble_eq_true rfl⟩ rfl rfl (Nat.le_of_ble_eq_true rfl) ⟨by show 100 + 8 * t + 0 ≤ 603072; omega, by show 4000 + 64 * t + 0 ≤ 7190633; omega⟩ dL_law_158 (fun r9 cx9 L9 F9 hp9 hf9 hN9 => ?_)
  obtain ⟨ml1, msg1, rfl, rfl, rfl, rfl, he1⟩ := hp9
  show G g (muL nm) E A (100 + 8 * t) (4000 + 64 * t) Q [(xx, .inr (6, [.ref ka, .int (nI (nk)), .ref sa, .long (tr), .ref ma, .int (nI (ml1)), .ref oa, .int (nI (on)), .ref ba, .ref h0, .ref c0])), (mm, .inr (7, [.int (cd), .int (nI (nk)), .ref oc, .ref nx, .ref ia, .ref ms, .int (nI (ml)), .int (nI (on)), .ref ot, .long (tr), .ref my, .ref co, .ref bd, .ref bk, .ref oh, .ref rd, .ref mk, .ref rw, .ref ss])), (oc, aI E 272 (foc)), (nx, aI E 17 (fnx)), (ia, aJ E 17 (fis)), (ms, aI E 300 (msg)), (ot, aI E 16 (fot)), (my, aZ E 1105 (fmy)), (co, aJ E 65 (fco)), (bd, aI E 65 (fbd)), (bk, aI E 16 (fbk)), (oh, aI E 16 (foh)), (rd, aI E 176 (frd)), (mk, aI E 16 (fmk)), (rw, aI E 320 (frw)), (ss, aI E 256 (TB)), (ka, aK E 16 (kr)), (sa, aS E 64 (sr)), (ma, aI E 300 (msg1)), (oa, aI E 16 (ov)), (ba, aI E 16 (bl)), (h0, .inr (2, [.ref r0, .ref t0])), (r0, aI E 176 (f)), (t0, aI E 16 (tn)), (c0, .inr (3, [.ref h0, .ref k0, .ref x0, .int (fi)])), (k0, aI E 16 (sk)), (x0, aI E 16 (res)), (la, aJ E 1 (fl))] L F 161 [(0, .ref b), (1, .ref xx), (2, .ref mm), (3, .ref la), (4, .int (nI (5 * t)))] []
  refine g_aload_n C dL_law_161 rfl 2 rfl ?_
  refine g_aload_n C dL_law_162 rfl 0 rfl ?_
  refine g_iload C dL_law_163 4 rfl ?_
  refine g_iconst (v := nI (1)) C dL_law_165 (by decide) ?_
  refine g_iadd C dL_law_166 ?_
  refine g_asi (nI_add _ _) ?_
  refine g_sld C hS (by omega) (by omega) dL_law_167 ?_
  refine g_asi (show (xs ((5 * t) + 1)) = (y1) from hy1) ?_
  refine g_i2b (v := (y1).toInt8.toInt32) C dL_law_168 rfl ?_
  refine g_callV (v := muX5_octet) (cx := [(mm, .inr (7, [.int (cd), .int (nI (nk)), .ref oc, .ref nx, .ref ia, .ref ms, .int (nI (ml)), .int (nI (on)), .ref ot, .long (tr), .ref my, .ref co, .ref bd, .ref bk, .ref oh, .ref rd, .ref mk, .ref rw, .ref ss])), (ms, aI E 300 (msg))]) C (k_X5_octet (gl g) E mm oc nx ia ms ot my co bd bk oh rd mk rw ss cd nk ml on tr msg y1.toInt8.toInt32 L F hml) [1, 5] rfl (by decide) 1 rfl rfl gi_L_33 hd_X5_octet ⟨Nat.le_of_ble_eq_true rfl, Nat.le_of_ble_eq_true rfl⟩ rfl rfl (Nat.le_of_ble_eq_true rfl) ⟨by show 100 + 8 * t + 0 ≤ 603072; omega, by show 4000 + 64 * t + 0 ≤ 7190633; omega⟩ dL_law_169 (fun r9 cx9 L9 F9 hp9 hf9 hN9 => ?_)
  obtain ⟨ml2, msg2, rfl, rfl, rfl, rfl, he2⟩ := hp9
  show G g (muL nm) E A (100 + 8 * t) (4000 + 64 * t) Q [(xx, .inr (6, [.ref ka, .int (nI (nk)), .ref sa, .long (tr), .ref ma, .int (nI (ml1)), .ref oa, .int (nI (on)), .ref ba, .ref h0, .ref c0])), (mm, .inr (7, [.int (nI 0), .int (nI (nk)), .ref oc, .ref nx, .ref ia, .ref ms, .int (nI (ml2)), .int (nI (on)), .ref ot, .long (tr), .ref my, .ref co, .ref bd, .ref bk, .ref oh, .ref rd, .ref mk, .ref rw, .ref ss])), (oc, aI E 272 (foc)), (nx, aI E 17 (fnx)), (ia, aJ E 17 (fis)), (ms, aI E 300 (msg2)), (ot, aI E 16 (fot)), (my, aZ E 1105 (fmy)), (co, aJ E 65 (fco)), (bd, aI E 65 (fbd)), (bk, aI E 16 (fbk)), (oh, aI E 16 (foh)), (rd, aI E 176 (frd)), (mk, aI E 16 (fmk)), (rw, aI E 320 (frw)), (ss, aI E 256 (TB)), (ka, aK E 16 (kr)), (sa, aS E 64 (sr)), (ma, aI E 300 (msg1)), (oa, aI E 16 (ov)), (ba, aI E 16 (bl)), (h0, .inr (2, [.ref r0, .ref t0])), (r0, aI E 176 (f)), (t0, aI E 16 (tn)), (c0, .inr (3, [.ref h0, .ref k0, .ref x0, .int (fi)])), (k0, aI E 16 (sk)), (x0, aI E 16 (res)), (la, aJ E 1 (fl))] L F 172 [(0, .ref b), (1, .ref xx), (2, .ref mm), (3, .ref la), (4, .int (nI (5 * t)))] []
  refine g_goto (tgt := 639) C dL_law_172 (by decide) ?_
  have ho1 := oct_ok y1.toInt8.toInt32 hml hmsg
  obtain ⟨e1, e2⟩ := Prod.mk.inj (he1.trans he2.symm)
  subst e1
  subst e2
  rw [← he1] at ho1
  refine g_cells (ce' := 100 + 8 * t + 8) (sl' := 4000 + 64 * t + 64) (by omega) (by omega) ?_
  exact jn nk ml1 on tr kr sr ko kn kc sc sb sl msg1 ov bl f tn sk res fi (nI 0) foc fnx frd fbk foh fmk frw fot fmy fbd fis fco fl L F ⟨hnk, ho1.1, hon, ho1.2, hot, hPS, hMK, hMS, hSO⟩
set_option maxHeartbeats 4000000 in
set_option maxRecDepth 100000 in
theorem law_c3 {g : Gm} {E : Ev} {A : Nat → Prop} {Q : State → Prop} {nm : String} {b N t : Nat} {xs : Nat → Int32} {xx mm oc nx ia ms ot my co bd bk oh rd mk rw ss ka sa ma oa ba h0 r0 t0 c0 k0 x0 la : Nat} (C : Cx g (muL nm) E A) (T : TT A (gs g) (gs g).heap) (hl : (gl g).stackTraces = false) (hS : SC g A b N xs) (hN : N ≤ 2560) (ht : 5 * t + 5 ≤ N) (y1 y2 y3 y4 : Int32) (hy1 : xs (5 * t + 1) = y1) (hy2 : xs (5 * t + 2) = y2) (hy3 : xs (5 * t + 3) = y3) (hy4 : xs (5 * t + 4) = y4) (nk ml on : Nat) (tr : Int64) (kr sr : Nat → Option Nat) (ko : Nat → Nat → Int32) (kn : Nat → Nat) (kc sc : Nat → Int64) (sb : Nat → Nat) (sl msg ov bl f tn sk res : Nat → Int32) (fi cd : Int32) (foc fnx frd fbk foh fmk frw fot fmy fbd : Nat → Int32) (fis fco fl : Nat → Int64) (L : List Nat) (F : Nat → va_E) (I : LI E L F kr sr nk ml on ko kn kc sc sb sl msg ov fot foc fnx fbd fmy fis fco) (jn : JN g E A Q nm b t xx mm oc nx ia ms ot my co bd bk oh rd mk rw ss ka sa ma oa ba h0 r0 t0 c0 k0 x0 la) : G g (muL nm) E A (100 + 8 * t) (4000 + 64 * t) Q [(xx, .inr (6, [.ref ka, .int (nI (nk)), .ref sa, .long (tr), .ref ma, .int (nI (ml)), .ref oa, .int (nI (on)), .ref ba, .ref h0, .ref c0])), (mm, .inr (7, [.int (cd), .int (nI (nk)), .ref oc, .ref nx, .ref ia, .ref ms, .int (nI (ml)), .int (nI (on)), .ref ot, .long (tr), .ref my, .ref co, .ref bd, .ref bk, .ref oh, .ref rd, .ref mk, .ref rw, .ref ss])), (oc, aI E 272 (foc)), (nx, aI E 17 (fnx)), (ia, aJ E 17 (fis)), (ms, aI E 300 (msg)), (ot, aI E 16 (fot)), (my, aZ E 1105 (fmy)), (co, aJ E 65 (fco)), (bd, aI E 65 (fbd)), (bk, aI E 16 (fbk)), (oh, aI E 16 (foh)), (rd, aI E 176 (frd)), (mk, aI E 16 (fmk)), (rw, aI E 320 (frw)), (ss, aI E 256 (TB)), (ka, aK E 16 (kr)), (sa, aS E 64 (sr)), (ma, aI E 300 (msg)), (oa, aI E 16 (ov)), (ba, aI E 16 (bl)), (h0, .inr (2, [.ref r0, .ref t0])), (r0, aI E 176 (f)), (t0, aI E 16 (tn)), (c0, .inr (3, [.ref h0, .ref k0, .ref x0, .int (fi)])), (k0, aI E 16 (sk)), (x0, aI E 16 (res)), (la, aJ E 1 (fl))] L F 175 [(0, .ref b), (1, .ref xx), (2, .ref mm), (3, .ref la), (4, .int (nI (5 * t)))] [] := by
  obtain ⟨hnk, hml, hon, hmsg, hot, hPS, hMK, hMS, hSO⟩ := I
  refine g_aload_n C dL_law_175 rfl 1 rfl ?_
  refine g_aload_n C dL_law_176 rfl 0 rfl ?_
  refine g_iload C dL_law_177 4 rfl ?_
  refine g_iconst (v := nI (1)) C dL_law_179 (by decide) ?_
  refine g_iadd C dL_law_180 ?_
  refine g_asi (nI_add _ _) ?_
  refine g_sld C hS (by omega) (by omega) dL_law_181 ?_
  refine g_asi (show (xs ((5 * t) + 1)) = (y1) from hy1) ?_
  refine g_aload_n C dL_law_182 rfl 0 rfl ?_
  refine g_iload C dL_law_183 4 rfl ?_
  refine g_iconst (v := nI (2)) C dL_law_185 (by decide) ?_
  refine g_iadd C dL_law_186 ?_
  refine g_asi (nI_add _ _) ?_
  refine g_sld C hS (by omega) (by omega) dL_law_187 ?_
  refine g_asi (show (xs ((5 * t) + 2)) = (y2) from hy2) ?_
  refine g_callV (v := muX4_code) (cx := [(xx, .inr (6, [.ref ka, .int (nI (nk)), .ref sa, .long (tr), .ref ma, .int (nI (ml)), .ref oa, .int (nI (on)), .ref ba, .ref h0, .ref c0])), (ka, aK E 16 (kr)), (ma, aI E 300 (msg)), (oa, aI E 16 (ov)), (h0, .inr (2, [.ref r0, .ref t0])), (r0, aI E 176 (f)), (t0, aI E 16 (tn)), (c0, .inr (3, [.ref h0, .ref k0, .ref x0, .int (fi)])), (k0, aI E 16 (sk)), (x0, aI E 16 (res))]) C (k_X4_code (gl g) E xx ka sa ma oa ba h0 c0 nk ml on tr kr sr ko kn kc sc sb sl r0 t0 k0 x0 f tn sk res fi msg ov y1 y2 L F hnk hml hPS) [0, 16, 18, 19, 21, 22, 23, 24, 25, 26] rfl (by decide) 0 rfl rfl gi_L_34 hd_X4_code ⟨Nat.le_of_ble_eq_true rfl, Nat.le_of_ble_eq_true rfl⟩ rfl rfl (Nat.le_of_ble_eq_true rfl) ⟨by show 100 + 8 * t + 0 ≤ 603072; omega, by show 4000 + 64 * t + 0 ≤ 7190633; omega⟩ dL_law_188 (fun r9 cx9 L9 F9 hp9 hf9 hN9 => ?_)
  obtain ⟨r1, ml1, on1, ov1, f1, tn1, sk1, res1, fi1, rfl, rfl, rfl, rfl, he1⟩ := hp9
  show G g (muL nm) E A (100 + 8 * t) (4000 + 64 * t) Q [(xx, .inr (6, [.ref ka, .int (nI (nk)), .ref sa, .long (tr), .ref ma, .int (nI (ml1)), .ref oa, .int (nI (on1)), .ref ba, .ref h0, .ref c0])), (mm, .inr (7, [.int (cd), .int (nI (nk)), .ref oc, .ref nx, .ref ia, .ref ms, .int (nI (ml)), .int (nI (on)), .ref ot, .long (tr), .ref my, .ref co, .ref bd, .ref bk, .ref oh, .ref rd, .ref mk, .ref rw, .ref ss])), (oc, aI E 272 (foc)), (nx, aI E 17 (fnx)), (ia, aJ E 17 (fis)), (ms, aI E 300 (msg)), (ot, aI E 16 (fot)), (my, aZ E 1105 (fmy)), (co, aJ E 65 (fco)), (bd, aI E 65 (fbd)), (bk, aI E 16 (fbk)), (oh, aI E 16 (foh)), (rd, aI E 176 (frd)), (mk, aI E 16 (fmk)), (rw, aI E 320 (frw)), (ss, aI E 256 (TB)), (ka, aK E 16 (kr)), (sa, aS E 64 (sr)), (ma, aI E 300 (msg)), (oa, aI E 16 (ov1)), (ba, aI E 16 (bl)), (h0, .inr (2, [.ref r0, .ref t0])), (r0, aI E 176 (f1)), (t0, aI E 16 (tn1)), (c0, .inr (3, [.ref h0, .ref k0, .ref x0, .int (fi1)])), (k0, aI E 16 (sk1)), (x0, aI E 16 (res1)), (la, aJ E 1 (fl))] L F 191 [(0, .ref b), (1, .ref xx), (2, .ref mm), (3, .ref la), (4, .int (nI (5 * t)))] [.int (r1)]
  refine g_aload_n C dL_law_191 rfl 2 rfl ?_
  refine g_aload_n C dL_law_192 rfl 0 rfl ?_
  refine g_iload C dL_law_193 4 rfl ?_
  refine g_iconst (v := nI (1)) C dL_law_195 (by decide) ?_
  refine g_iadd C dL_law_196 ?_
  refine g_asi (nI_add _ _) ?_
  refine g_sld C hS (by omega) (by omega) dL_law_197 ?_
  refine g_asi (show (xs ((5 * t) + 1)) = (y1) from hy1) ?_
  refine g_aload_n C dL_law_198 rfl 0 rfl ?_
  refine g_iload C dL_law_199 4 rfl ?_
  refine g_iconst (v := nI (2)) C dL_law_201 (by decide) ?_
  refine g_iadd C dL_law_202 ?_
  refine g_asi (nI_add _ _) ?_
  refine g_sld C hS (by omega) (by omega) dL_law_203 ?_
  refine g_asi (show (xs ((5 * t) + 2)) = (y2) from hy2) ?_
  refine g_callV (v := muX5_code) (cx := [(mm, .inr (7, [.int (cd), .int (nI (nk)), .ref oc, .ref nx, .ref ia, .ref ms, .int (nI (ml)), .int (nI (on)), .ref ot, .long (tr), .ref my, .ref co, .ref bd, .ref bk, .ref oh, .ref rd, .ref mk, .ref rw, .ref ss])), (oc, aI E 272 (foc)), (rd, aI E 176 (frd)), (ss, aI E 256 (TB)), (bk, aI E 16 (fbk)), (oh, aI E 16 (foh)), (mk, aI E 16 (fmk)), (rw, aI E 320 (frw)), (ms, aI E 300 (msg)), (ot, aI E 16 (fot))]) C (k_X5_code (gl g) E mm oc nx ia ms ot my co bd bk oh rd mk rw ss cd nk ml on tr foc fnx frd fbk foh fmk frw msg fot ov fis ko kn kc y1 y2 L F hnk hMK hmsg hml hon hot) [1, 2, 12, 15, 10, 11, 13, 14, 5, 6] rfl (by decide) 1 rfl rfl gi_L_38 hd_X5_code ⟨Nat.le_of_ble_eq_true rfl, Nat.le_of_ble_eq_true rfl⟩ rfl rfl (Nat.le_of_ble_eq_true rfl) ⟨by show 100 + 8 * t + 0 ≤ 603072; omega, by show 4000 + 64 * t + 0 ≤ 7190633; omega⟩ dL_law_204 (fun r9 cx9 L9 F9 hp9 hf9 hN9 => ?_)
  obtain ⟨ml2, on2, frd1, fbk1, foh1, fmk1, frw1, fot1, rfl, rfl, rfl, rfl, hm2, hn2, hf2⟩ := hp9
  show G g (muL nm) E A (100 + 8 * t) (4000 + 64 * t) Q [(xx, .inr (6, [.ref ka, .int (nI (nk)), .ref sa, .long (tr), .ref ma, .int (nI (ml1)), .ref oa, .int (nI (on1)), .ref ba, .ref h0, .ref c0])), (mm, .inr (7, [.int (nI 0), .int (nI (nk)), .ref oc, .ref nx, .ref ia, .ref ms, .int (nI (ml2)), .int (nI (on2)), .ref ot, .long (tr), .ref my, .ref co, .ref bd, .ref bk, .ref oh, .ref rd, .ref mk, .ref rw, .ref ss])), (oc, aI E 272 (foc)), (nx, aI E 17 (fnx)), (ia, aJ E 17 (fis)), (ms, aI E 300 (msg)), (ot, aI E 16 (fot1)), (my, aZ E 1105 (fmy)), (co, aJ E 65 (fco)), (bd, aI E 65 (fbd)), (bk, aI E 16 (fbk1)), (oh, aI E 16 (foh1)), (rd, aI E 176 (frd1)), (mk, aI E 16 (fmk1)), (rw, aI E 320 (frw1)), (ss, aI E 256 (TB)), (ka, aK E 16 (kr)), (sa, aS E 64 (sr)), (ma, aI E 300 (msg)), (oa, aI E 16 (ov1)), (ba, aI E 16 (bl)), (h0, .inr (2, [.ref r0, .ref t0])), (r0, aI E 176 (f1)), (t0, aI E 16 (tn1)), (c0, .inr (3, [.ref h0, .ref k0, .ref x0, .int (fi1)])), (k0, aI E 16 (sk1)), (x0, aI E 16 (res1)), (la, aJ E 1 (fl))] L F 207 [(0, .ref b), (1, .ref xx), (2, .ref mm), (3, .ref la), (4, .int (nI (5 * t)))] [.int ((cdS nk ko ml msg on ov y1 y2).1), .int (r1)]
  refine g_icmp_eq (tgt := 639) C dL_law_207 (by decide) (fun c207 => ?_) (fun c207 => ?_)
  · skip
    have hc1 := cd_ok (nk := nk) (ko := ko) (msg := msg) (ov := ov) y1 y2 hml hon
    obtain rfl : ml1 = ml2 := by rw [hm2, ← he1]
    obtain rfl : on1 = on2 := by rw [hn2, ← he1]
    rw [← he1] at hc1 hf2
    refine g_cells (ce' := 100 + 8 * t + 8) (sl' := 4000 + 64 * t + 64) (by omega) (by omega) ?_
    exact jn nk ml1 on1 tr kr sr ko kn kc sc sb sl msg ov1 bl f1 tn1 sk1 res1 fi1 (nI 0) foc fnx frd1 fbk1 foh1 fmk1 frw1 fot1 fmy fbd fis fco fl L F ⟨hnk, hc1.1, hc1.2, hmsg, hf2, hPS, hMK, hMS, hSO⟩
  · skip
    exact absurd (congrArg Prod.fst he1) c207
set_option maxHeartbeats 4000000 in
set_option maxRecDepth 100000 in
theorem law_c5 {g : Gm} {E : Ev} {A : Nat → Prop} {Q : State → Prop} {nm : String} {b N t : Nat} {xs : Nat → Int32} {xx mm oc nx ia ms ot my co bd bk oh rd mk rw ss ka sa ma oa ba h0 r0 t0 c0 k0 x0 la : Nat} (C : Cx g (muL nm) E A) (T : TT A (gs g) (gs g).heap) (hl : (gl g).stackTraces = false) (hS : SC g A b N xs) (hN : N ≤ 2560) (ht : 5 * t + 5 ≤ N) (y1 y2 y3 y4 : Int32) (hy1 : xs (5 * t + 1) = y1) (hy2 : xs (5 * t + 2) = y2) (hy3 : xs (5 * t + 3) = y3) (hy4 : xs (5 * t + 4) = y4) (nk ml on : Nat) (tr : Int64) (kr sr : Nat → Option Nat) (ko : Nat → Nat → Int32) (kn : Nat → Nat) (kc sc : Nat → Int64) (sb : Nat → Nat) (sl msg ov bl f tn sk res : Nat → Int32) (fi cd : Int32) (foc fnx frd fbk foh fmk frw fot fmy fbd : Nat → Int32) (fis fco fl : Nat → Int64) (L : List Nat) (F : Nat → va_E) (I : LI E L F kr sr nk ml on ko kn kc sc sb sl msg ov fot foc fnx fbd fmy fis fco) (jn : JN g E A Q nm b t xx mm oc nx ia ms ot my co bd bk oh rd mk rw ss ka sa ma oa ba h0 r0 t0 c0 k0 x0 la) : G g (muL nm) E A (100 + 8 * t) (4000 + 64 * t) Q [(xx, .inr (6, [.ref ka, .int (nI (nk)), .ref sa, .long (tr), .ref ma, .int (nI (ml)), .ref oa, .int (nI (on)), .ref ba, .ref h0, .ref c0])), (mm, .inr (7, [.int (cd), .int (nI (nk)), .ref oc, .ref nx, .ref ia, .ref ms, .int (nI (ml)), .int (nI (on)), .ref ot, .long (tr), .ref my, .ref co, .ref bd, .ref bk, .ref oh, .ref rd, .ref mk, .ref rw, .ref ss])), (oc, aI E 272 (foc)), (nx, aI E 17 (fnx)), (ia, aJ E 17 (fis)), (ms, aI E 300 (msg)), (ot, aI E 16 (fot)), (my, aZ E 1105 (fmy)), (co, aJ E 65 (fco)), (bd, aI E 65 (fbd)), (bk, aI E 16 (fbk)), (oh, aI E 16 (foh)), (rd, aI E 176 (frd)), (mk, aI E 16 (fmk)), (rw, aI E 320 (frw)), (ss, aI E 256 (TB)), (ka, aK E 16 (kr)), (sa, aS E 64 (sr)), (ma, aI E 300 (msg)), (oa, aI E 16 (ov)), (ba, aI E 16 (bl)), (h0, .inr (2, [.ref r0, .ref t0])), (r0, aI E 176 (f)), (t0, aI E 16 (tn)), (c0, .inr (3, [.ref h0, .ref k0, .ref x0, .int (fi)])), (k0, aI E 16 (sk)), (x0, aI E 16 (res)), (la, aJ E 1 (fl))] L F 268 [(0, .ref b), (1, .ref xx), (2, .ref mm), (3, .ref la), (4, .int (nI (5 * t)))] [] := by
  obtain ⟨hnk, hml, hon, hmsg, hot, hPS, hMK, hMS, hSO⟩ := I
  refine g_aload_n C dL_law_268 rfl 1 rfl ?_
  refine g_aload_n C dL_law_269 rfl 0 rfl ?_
  refine g_iload C dL_law_270 4 rfl ?_
  refine g_iconst (v := nI (1)) C dL_law_272 (by decide) ?_
  refine g_iadd C dL_law_273 ?_
  refine g_asi (nI_add _ _) ?_
  refine g_sld C hS (by omega) (by omega) dL_law_274 ?_
  refine g_asi (show (xs ((5 * t) + 1)) = (y1) from hy1) ?_
  refine g_aload_n C dL_law_275 rfl 0 rfl ?_
  refine g_iload C dL_law_276 4 rfl ?_
  refine g_iconst (v := nI (2)) C dL_law_278 (by decide) ?_
  refine g_iadd C dL_law_279 ?_
  refine g_asi (nI_add _ _) ?_
  refine g_sld C hS (by omega) (by omega) dL_law_280 ?_
  refine g_asi (show (xs ((5 * t) + 2)) = (y2) from hy2) ?_
  refine g_i2l (v := (y2).toInt64) C dL_law_281 rfl ?_
  refine g_bipush (v := nI (32)) C dL_law_282 (by decide) ?_
  refine g_lshl (v := ((y2).toInt64) <<< ((nI (32)).toInt64 &&& 63)) C dL_law_284 rfl ?_
  refine g_aload_n C dL_law_285 rfl 0 rfl ?_
  refine g_iload C dL_law_286 4 rfl ?_
  refine g_iconst (v := nI (3)) C dL_law_288 (by decide) ?_
  refine g_iadd C dL_law_289 ?_
  refine g_asi (nI_add _ _) ?_
  refine g_sld C hS (by omega) (by omega) dL_law_290 ?_
  refine g_asi (show (xs ((5 * t) + 3)) = (y3) from hy3) ?_
  refine g_i2l (v := (y3).toInt64) C dL_law_291 rfl ?_
  refine g_ldc2_w C m_575 dL_law_292 ?_
  refine g_land C dL_law_295 ?_
  refine g_lor C dL_law_296 ?_
  refine g_asl (show ((((y2).toInt64) <<< ((nI (32)).toInt64 &&& 63)) ||| (((y3).toInt64) &&& 4294967295)) = (cL y2 y3) from rfl) ?_
  refine g_callV (v := muX4_fresh) (cx := [(xx, .inr (6, [.ref ka, .int (nI (nk)), .ref sa, .long (tr), .ref ma, .int (nI (ml)), .ref oa, .int (nI (on)), .ref ba, .ref h0, .ref c0])), (sa, aS E 64 (sr))]) C (k_X4_fresh (gl g) E xx ka sa ma oa ba h0 c0 nk ml on tr kr sr ko kn kc sc sb sl y1 (cL y2 y3) L F hPS) [0, 17] rfl (by decide) 0 rfl rfl gi_L_50 hd_X4_fresh ⟨Nat.le_of_ble_eq_true rfl, Nat.le_of_ble_eq_true rfl⟩ rfl rfl (Nat.le_of_ble_eq_true rfl) ⟨by show 100 + 8 * t + 0 ≤ 603072; omega, by show 4000 + 64 * t + 0 ≤ 7190633; omega⟩ dL_law_297 (fun r9 cx9 L9 F9 hp9 hf9 hN9 => ?_)
  obtain ⟨r1, F1, sc1, rfl, rfl, rfl, rfl, hps1, he1⟩ := hp9
  show G g (muL nm) E A (100 + 8 * t) (4000 + 64 * t) Q [(xx, .inr (6, [.ref ka, .int (nI (nk)), .ref sa, .long (tr), .ref ma, .int (nI (ml)), .ref oa, .int (nI (on)), .ref ba, .ref h0, .ref c0])), (mm, .inr (7, [.int (cd), .int (nI (nk)), .ref oc, .ref nx, .ref ia, .ref ms, .int (nI (ml)), .int (nI (on)), .ref ot, .long (tr), .ref my, .ref co, .ref bd, .ref bk, .ref oh, .ref rd, .ref mk, .ref rw, .ref ss])), (oc, aI E 272 (foc)), (nx, aI E 17 (fnx)), (ia, aJ E 17 (fis)), (ms, aI E 300 (msg)), (ot, aI E 16 (fot)), (my, aZ E 1105 (fmy)), (co, aJ E 65 (fco)), (bd, aI E 65 (fbd)), (bk, aI E 16 (fbk)), (oh, aI E 16 (foh)), (rd, aI E 176 (frd)), (mk, aI E 16 (fmk)), (rw, aI E 320 (frw)), (ss, aI E 256 (TB)), (ka, aK E 16 (kr)), (sa, aS E 64 (sr)), (ma, aI E 300 (msg)), (oa, aI E 16 (ov)), (ba, aI E 16 (bl)), (h0, .inr (2, [.ref r0, .ref t0])), (r0, aI E 176 (f)), (t0, aI E 16 (tn)), (c0, .inr (3, [.ref h0, .ref k0, .ref x0, .int (fi)])), (k0, aI E 16 (sk)), (x0, aI E 16 (res)), (la, aJ E 1 (fl))] L F1 300 [(0, .ref b), (1, .ref xx), (2, .ref mm), (3, .ref la), (4, .int (nI (5 * t)))] [.int (r1)]
  refine g_aload_n C dL_law_300 rfl 2 rfl ?_
  refine g_aload_n C dL_law_301 rfl 0 rfl ?_
  refine g_iload C dL_law_302 4 rfl ?_
  refine g_iconst (v := nI (1)) C dL_law_304 (by decide) ?_
  refine g_iadd C dL_law_305 ?_
  refine g_asi (nI_add _ _) ?_
  refine g_sld C hS (by omega) (by omega) dL_law_306 ?_
  refine g_asi (show (xs ((5 * t) + 1)) = (y1) from hy1) ?_
  refine g_aload_n C dL_law_307 rfl 0 rfl ?_
  refine g_iload C dL_law_308 4 rfl ?_
  refine g_iconst (v := nI (2)) C dL_law_310 (by decide) ?_
  refine g_iadd C dL_law_311 ?_
  refine g_asi (nI_add _ _) ?_
  refine g_sld C hS (by omega) (by omega) dL_law_312 ?_
  refine g_asi (show (xs ((5 * t) + 2)) = (y2) from hy2) ?_
  refine g_i2l (v := (y2).toInt64) C dL_law_313 rfl ?_
  refine g_bipush (v := nI (32)) C dL_law_314 (by decide) ?_
  refine g_lshl (v := ((y2).toInt64) <<< ((nI (32)).toInt64 &&& 63)) C dL_law_316 rfl ?_
  refine g_aload_n C dL_law_317 rfl 0 rfl ?_
  refine g_iload C dL_law_318 4 rfl ?_
  refine g_iconst (v := nI (3)) C dL_law_320 (by decide) ?_
  refine g_iadd C dL_law_321 ?_
  refine g_asi (nI_add _ _) ?_
  refine g_sld C hS (by omega) (by omega) dL_law_322 ?_
  refine g_asi (show (xs ((5 * t) + 3)) = (y3) from hy3) ?_
  refine g_i2l (v := (y3).toInt64) C dL_law_323 rfl ?_
  refine g_ldc2_w C m_575 dL_law_324 ?_
  refine g_land C dL_law_327 ?_
  refine g_lor C dL_law_328 ?_
  refine g_asl (show ((((y2).toInt64) <<< ((nI (32)).toInt64 &&& 63)) ||| (((y3).toInt64) &&& 4294967295)) = (cL y2 y3) from rfl) ?_
  refine g_callV (v := muX5_fresh) (cx := [(mm, .inr (7, [.int (cd), .int (nI (nk)), .ref oc, .ref nx, .ref ia, .ref ms, .int (nI (ml)), .int (nI (on)), .ref ot, .long (tr), .ref my, .ref co, .ref bd, .ref bk, .ref oh, .ref rd, .ref mk, .ref rw, .ref ss])), (co, aJ E 65 (fco))]) C (k_X5_fresh (gl g) E mm oc nx ia ms ot my co bd bk oh rd mk rw ss cd nk ml on tr fco fbd fmy sc sb sl y1 (cL y2 y3) L F1 hMS) [1, 8] rfl (by decide) 1 rfl rfl gi_L_54 hd_X5_fresh ⟨Nat.le_of_ble_eq_true rfl, Nat.le_of_ble_eq_true rfl⟩ rfl rfl (Nat.le_of_ble_eq_true rfl) ⟨by show 100 + 8 * t + 0 ≤ 603072; omega, by show 4000 + 64 * t + 0 ≤ 7190633; omega⟩ dL_law_329 (fun r9 cx9 L9 F9 hp9 hf9 hN9 => ?_)
  obtain ⟨fco1, rfl, rfl, rfl, rfl, hm2⟩ := hp9
  show G g (muL nm) E A (100 + 8 * t) (4000 + 64 * t) Q [(xx, .inr (6, [.ref ka, .int (nI (nk)), .ref sa, .long (tr), .ref ma, .int (nI (ml)), .ref oa, .int (nI (on)), .ref ba, .ref h0, .ref c0])), (mm, .inr (7, [.int (nI 0), .int (nI (nk)), .ref oc, .ref nx, .ref ia, .ref ms, .int (nI (ml)), .int (nI (on)), .ref ot, .long (tr), .ref my, .ref co, .ref bd, .ref bk, .ref oh, .ref rd, .ref mk, .ref rw, .ref ss])), (oc, aI E 272 (foc)), (nx, aI E 17 (fnx)), (ia, aJ E 17 (fis)), (ms, aI E 300 (msg)), (ot, aI E 16 (fot)), (my, aZ E 1105 (fmy)), (co, aJ E 65 (fco1)), (bd, aI E 65 (fbd)), (bk, aI E 16 (fbk)), (oh, aI E 16 (foh)), (rd, aI E 176 (frd)), (mk, aI E 16 (fmk)), (rw, aI E 320 (frw)), (ss, aI E 256 (TB)), (ka, aK E 16 (kr)), (sa, aS E 64 (sr)), (ma, aI E 300 (msg)), (oa, aI E 16 (ov)), (ba, aI E 16 (bl)), (h0, .inr (2, [.ref r0, .ref t0])), (r0, aI E 176 (f)), (t0, aI E 16 (tn)), (c0, .inr (3, [.ref h0, .ref k0, .ref x0, .int (fi)])), (k0, aI E 16 (sk)), (x0, aI E 16 (res)), (la, aJ E 1 (fl))] L F1 332 [(0, .ref b), (1, .ref xx), (2, .ref mm), (3, .ref la), (4, .int (nI (5 * t)))] [.int ((frS sc y1 (cL y2 y3)).1), .int (r1)]
  refine g_icmp_eq (tgt := 639) C dL_law_332 (by decide) (fun c332 => ?_) (fun c332 => ?_)
  · skip
    have hc1 := fr_ok y1 (cL y2 y3) hSO
    rw [← he1] at hc1 hm2
    refine g_cells (ce' := 100 + 8 * t + 8) (sl' := 4000 + 64 * t + 64) (by omega) (by omega) ?_
    exact jn nk ml on tr kr sr ko kn kc sc1 sb sl msg ov bl f tn sk res fi (nI 0) foc fnx frd fbk foh fmk frw fot fmy fbd fis fco1 fl L F1 ⟨hnk, hml, hon, hmsg, hot, hps1, hMK, hm2, hc1⟩
  · skip
    exact absurd (congrArg Prod.fst he1) c332
set_option maxHeartbeats 4000000 in
set_option maxRecDepth 100000 in
theorem law_c6 {g : Gm} {E : Ev} {A : Nat → Prop} {Q : State → Prop} {nm : String} {b N t : Nat} {xs : Nat → Int32} {xx mm oc nx ia ms ot my co bd bk oh rd mk rw ss ka sa ma oa ba h0 r0 t0 c0 k0 x0 la : Nat} (C : Cx g (muL nm) E A) (T : TT A (gs g) (gs g).heap) (hl : (gl g).stackTraces = false) (hS : SC g A b N xs) (hN : N ≤ 2560) (ht : 5 * t + 5 ≤ N) (y1 y2 y3 y4 : Int32) (hy1 : xs (5 * t + 1) = y1) (hy2 : xs (5 * t + 2) = y2) (hy3 : xs (5 * t + 3) = y3) (hy4 : xs (5 * t + 4) = y4) (nk ml on : Nat) (tr : Int64) (kr sr : Nat → Option Nat) (ko : Nat → Nat → Int32) (kn : Nat → Nat) (kc sc : Nat → Int64) (sb : Nat → Nat) (sl msg ov bl f tn sk res : Nat → Int32) (fi cd : Int32) (foc fnx frd fbk foh fmk frw fot fmy fbd : Nat → Int32) (fis fco fl : Nat → Int64) (L : List Nat) (F : Nat → va_E) (I : LI E L F kr sr nk ml on ko kn kc sc sb sl msg ov fot foc fnx fbd fmy fis fco) (jn : JN g E A Q nm b t xx mm oc nx ia ms ot my co bd bk oh rd mk rw ss ka sa ma oa ba h0 r0 t0 c0 k0 x0 la) : G g (muL nm) E A (100 + 8 * t) (4000 + 64 * t) Q [(xx, .inr (6, [.ref ka, .int (nI (nk)), .ref sa, .long (tr), .ref ma, .int (nI (ml)), .ref oa, .int (nI (on)), .ref ba, .ref h0, .ref c0])), (mm, .inr (7, [.int (cd), .int (nI (nk)), .ref oc, .ref nx, .ref ia, .ref ms, .int (nI (ml)), .int (nI (on)), .ref ot, .long (tr), .ref my, .ref co, .ref bd, .ref bk, .ref oh, .ref rd, .ref mk, .ref rw, .ref ss])), (oc, aI E 272 (foc)), (nx, aI E 17 (fnx)), (ia, aJ E 17 (fis)), (ms, aI E 300 (msg)), (ot, aI E 16 (fot)), (my, aZ E 1105 (fmy)), (co, aJ E 65 (fco)), (bd, aI E 65 (fbd)), (bk, aI E 16 (fbk)), (oh, aI E 16 (foh)), (rd, aI E 176 (frd)), (mk, aI E 16 (fmk)), (rw, aI E 320 (frw)), (ss, aI E 256 (TB)), (ka, aK E 16 (kr)), (sa, aS E 64 (sr)), (ma, aI E 300 (msg)), (oa, aI E 16 (ov)), (ba, aI E 16 (bl)), (h0, .inr (2, [.ref r0, .ref t0])), (r0, aI E 176 (f)), (t0, aI E 16 (tn)), (c0, .inr (3, [.ref h0, .ref k0, .ref x0, .int (fi)])), (k0, aI E 16 (sk)), (x0, aI E 16 (res)), (la, aJ E 1 (fl))] L F 337 [(0, .ref b), (1, .ref xx), (2, .ref mm), (3, .ref la), (4, .int (nI (5 * t)))] [] := by
  obtain ⟨hnk, hml, hon, hmsg, hot, hPS, hMK, hMS, hSO⟩ := I
  refine g_aload_n C dL_law_337 rfl 1 rfl ?_
  refine g_aload_n C dL_law_338 rfl 0 rfl ?_
  refine g_iload C dL_law_339 4 rfl ?_
  refine g_iconst (v := nI (1)) C dL_law_341 (by decide) ?_
  refine g_iadd C dL_law_342 ?_
  refine g_asi (nI_add _ _) ?_
  refine g_sld C hS (by omega) (by omega) dL_law_343 ?_
  refine g_asi (show (xs ((5 * t) + 1)) = (y1) from hy1) ?_
  refine g_aload_n C dL_law_344 rfl 0 rfl ?_
  refine g_iload C dL_law_345 4 rfl ?_
  refine g_iconst (v := nI (2)) C dL_law_347 (by decide) ?_
  refine g_iadd C dL_law_348 ?_
  refine g_asi (nI_add _ _) ?_
  refine g_sld C hS (by omega) (by omega) dL_law_349 ?_
  refine g_asi (show (xs ((5 * t) + 2)) = (y2) from hy2) ?_
  refine g_aload_n C dL_law_350 rfl 0 rfl ?_
  refine g_iload C dL_law_351 4 rfl ?_
  refine g_iconst (v := nI (3)) C dL_law_353 (by decide) ?_
  refine g_iadd C dL_law_354 ?_
  refine g_asi (nI_add _ _) ?_
  refine g_sld C hS (by omega) (by omega) dL_law_355 ?_
  refine g_asi (show (xs ((5 * t) + 3)) = (y3) from hy3) ?_
  refine g_callV (v := muX4_verify) (cx := [(xx, .inr (6, [.ref ka, .int (nI (nk)), .ref sa, .long (tr), .ref ma, .int (nI (ml)), .ref oa, .int (nI (on)), .ref ba, .ref h0, .ref c0])), (ka, aK E 16 (kr)), (sa, aS E 64 (sr)), (ma, aI E 300 (msg)), (h0, .inr (2, [.ref r0, .ref t0])), (r0, aI E 176 (f)), (t0, aI E 16 (tn)), (c0, .inr (3, [.ref h0, .ref k0, .ref x0, .int (fi)])), (k0, aI E 16 (sk)), (x0, aI E 16 (res))]) C (k_X4_verify (gl g) E xx ka sa ma oa ba h0 c0 nk ml on tr kr sr ko kn kc sc sb sl r0 t0 k0 x0 f tn sk res fi msg y1 y2 y3 L F hnk hml hPS (fun j hj => (hSO j hj).1)) [0, 16, 17, 18, 21, 22, 23, 24, 25, 26] rfl (by decide) 0 rfl rfl gi_L_55 hd_X4_verify ⟨Nat.le_of_ble_eq_true rfl, Nat.le_of_ble_eq_true rfl⟩ rfl rfl (Nat.le_of_ble_eq_true rfl) ⟨by show 100 + 8 * t + 0 ≤ 603072; omega, by show 4000 + 64 * t + 0 ≤ 7190633; omega⟩ dL_law_356 (fun r9 cx9 L9 F9 hp9 hf9 hN9 => ?_)
  obtain ⟨r1, ml1, F1, sc1, sb1, f1, tn1, sk1, res1, fi1, rfl, rfl, rfl, rfl, hps1, he1⟩ := hp9
  show G g (muL nm) E A (100 + 8 * t) (4000 + 64 * t) Q [(xx, .inr (6, [.ref ka, .int (nI (nk)), .ref sa, .long (tr), .ref ma, .int (nI (ml1)), .ref oa, .int (nI (on)), .ref ba, .ref h0, .ref c0])), (mm, .inr (7, [.int (cd), .int (nI (nk)), .ref oc, .ref nx, .ref ia, .ref ms, .int (nI (ml)), .int (nI (on)), .ref ot, .long (tr), .ref my, .ref co, .ref bd, .ref bk, .ref oh, .ref rd, .ref mk, .ref rw, .ref ss])), (oc, aI E 272 (foc)), (nx, aI E 17 (fnx)), (ia, aJ E 17 (fis)), (ms, aI E 300 (msg)), (ot, aI E 16 (fot)), (my, aZ E 1105 (fmy)), (co, aJ E 65 (fco)), (bd, aI E 65 (fbd)), (bk, aI E 16 (fbk)), (oh, aI E 16 (foh)), (rd, aI E 176 (frd)), (mk, aI E 16 (fmk)), (rw, aI E 320 (frw)), (ss, aI E 256 (TB)), (ka, aK E 16 (kr)), (sa, aS E 64 (sr)), (ma, aI E 300 (msg)), (oa, aI E 16 (ov)), (ba, aI E 16 (bl)), (h0, .inr (2, [.ref r0, .ref t0])), (r0, aI E 176 (f1)), (t0, aI E 16 (tn1)), (c0, .inr (3, [.ref h0, .ref k0, .ref x0, .int (fi1)])), (k0, aI E 16 (sk1)), (x0, aI E 16 (res1)), (la, aJ E 1 (fl))] L F1 359 [(0, .ref b), (1, .ref xx), (2, .ref mm), (3, .ref la), (4, .int (nI (5 * t)))] [.int (r1)]
  refine g_aload_n C dL_law_359 rfl 2 rfl ?_
  refine g_aload_n C dL_law_360 rfl 0 rfl ?_
  refine g_iload C dL_law_361 4 rfl ?_
  refine g_iconst (v := nI (1)) C dL_law_363 (by decide) ?_
  refine g_iadd C dL_law_364 ?_
  refine g_asi (nI_add _ _) ?_
  refine g_sld C hS (by omega) (by omega) dL_law_365 ?_
  refine g_asi (show (xs ((5 * t) + 1)) = (y1) from hy1) ?_
  refine g_aload_n C dL_law_366 rfl 0 rfl ?_
  refine g_iload C dL_law_367 4 rfl ?_
  refine g_iconst (v := nI (2)) C dL_law_369 (by decide) ?_
  refine g_iadd C dL_law_370 ?_
  refine g_asi (nI_add _ _) ?_
  refine g_sld C hS (by omega) (by omega) dL_law_371 ?_
  refine g_asi (show (xs ((5 * t) + 2)) = (y2) from hy2) ?_
  refine g_aload_n C dL_law_372 rfl 0 rfl ?_
  refine g_iload C dL_law_373 4 rfl ?_
  refine g_iconst (v := nI (3)) C dL_law_375 (by decide) ?_
  refine g_iadd C dL_law_376 ?_
  refine g_asi (nI_add _ _) ?_
  refine g_sld C hS (by omega) (by omega) dL_law_377 ?_
  refine g_asi (show (xs ((5 * t) + 3)) = (y3) from hy3) ?_
  refine g_callV (v := muX5_verify) (cx := [(mm, .inr (7, [.int (cd), .int (nI (nk)), .ref oc, .ref nx, .ref ia, .ref ms, .int (nI (ml)), .int (nI (on)), .ref ot, .long (tr), .ref my, .ref co, .ref bd, .ref bk, .ref oh, .ref rd, .ref mk, .ref rw, .ref ss])), (oc, aI E 272 (foc)), (rd, aI E 176 (frd)), (ss, aI E 256 (TB)), (bk, aI E 16 (fbk)), (oh, aI E 16 (foh)), (mk, aI E 16 (fmk)), (rw, aI E 320 (frw)), (ms, aI E 300 (msg)), (my, aZ E 1105 (fmy)), (co, aJ E 65 (fco)), (bd, aI E 65 (fbd))]) C (k_X5_verify (gl g) E mm oc nx ia ms ot my co bd bk oh rd mk rw ss cd nk ml on tr foc fnx frd fbk foh fmk frw msg fmy fbd fis fco ko kn kc sc sb sl y1 y2 y3 L F1 hnk hMK hmsg hml hMS hSO) [1, 2, 12, 15, 10, 11, 13, 14, 5, 7, 8, 9] rfl (by decide) 1 rfl rfl gi_L_59 hd_X5_verify ⟨Nat.le_of_ble_eq_true rfl, Nat.le_of_ble_eq_true rfl⟩ rfl rfl (Nat.le_of_ble_eq_true rfl) ⟨by show 100 + 8 * t + 0 ≤ 603072; omega, by show 4000 + 64 * t + 0 ≤ 7190633; omega⟩ dL_law_378 (fun r9 cx9 L9 F9 hp9 hf9 hN9 => ?_)
  obtain ⟨ml2, frd1, fbk1, foh1, fmk1, frw1, fco1, fbd1, rfl, rfl, rfl, rfl, hm2, hs2⟩ := hp9
  show G g (muL nm) E A (100 + 8 * t) (4000 + 64 * t) Q [(xx, .inr (6, [.ref ka, .int (nI (nk)), .ref sa, .long (tr), .ref ma, .int (nI (ml1)), .ref oa, .int (nI (on)), .ref ba, .ref h0, .ref c0])), (mm, .inr (7, [.int (nI 0), .int (nI (nk)), .ref oc, .ref nx, .ref ia, .ref ms, .int (nI (ml2)), .int (nI (on)), .ref ot, .long (tr), .ref my, .ref co, .ref bd, .ref bk, .ref oh, .ref rd, .ref mk, .ref rw, .ref ss])), (oc, aI E 272 (foc)), (nx, aI E 17 (fnx)), (ia, aJ E 17 (fis)), (ms, aI E 300 (msg)), (ot, aI E 16 (fot)), (my, aZ E 1105 (fmy)), (co, aJ E 65 (fco1)), (bd, aI E 65 (fbd1)), (bk, aI E 16 (fbk1)), (oh, aI E 16 (foh1)), (rd, aI E 176 (frd1)), (mk, aI E 16 (fmk1)), (rw, aI E 320 (frw1)), (ss, aI E 256 (TB)), (ka, aK E 16 (kr)), (sa, aS E 64 (sr)), (ma, aI E 300 (msg)), (oa, aI E 16 (ov)), (ba, aI E 16 (bl)), (h0, .inr (2, [.ref r0, .ref t0])), (r0, aI E 176 (f1)), (t0, aI E 16 (tn1)), (c0, .inr (3, [.ref h0, .ref k0, .ref x0, .int (fi1)])), (k0, aI E 16 (sk1)), (x0, aI E 16 (res1)), (la, aJ E 1 (fl))] L F1 381 [(0, .ref b), (1, .ref xx), (2, .ref mm), (3, .ref la), (4, .int (nI (5 * t)))] [.int ((vfS nk ko ml msg tr sc sb sl y1 y2 y3).1), .int (r1)]
  refine g_icmp_eq (tgt := 639) C dL_law_381 (by decide) (fun c381 => ?_) (fun c381 => ?_)
  · skip
    have hc1 := vf_ok (nk := nk) (ko := ko) (msg := msg) (tr := tr) y1 y2 y3 hml hSO
    obtain rfl : ml1 = ml2 := by rw [hm2, ← he1]
    rw [← he1] at hc1 hs2
    refine g_cells (ce' := 100 + 8 * t + 8) (sl' := 4000 + 64 * t + 64) (by omega) (by omega) ?_
    exact jn nk ml1 on tr kr sr ko kn kc sc1 sb1 sl msg ov bl f1 tn1 sk1 res1 fi1 (nI 0) foc fnx frd1 fbk1 foh1 fmk1 frw1 fot fmy fbd1 fis fco1 fl L F1 ⟨hnk, hc1.1, hon, hmsg, hot, hps1, hMK, hs2, hc1.2⟩
  · skip
    exact absurd (congrArg Prod.fst he1) c381
set_option maxHeartbeats 4000000 in
set_option maxRecDepth 100000 in
theorem law_c7 {g : Gm} {E : Ev} {A : Nat → Prop} {Q : State → Prop} {nm : String} {b N t : Nat} {xs : Nat → Int32} {xx mm oc nx ia ms ot my co bd bk oh rd mk rw ss ka sa ma oa ba h0 r0 t0 c0 k0 x0 la : Nat} (C : Cx g (muL nm) E A) (T : TT A (gs g) (gs g).heap) (hl : (gl g).stackTraces = false) (hS : SC g A b N xs) (hN : N ≤ 2560) (ht : 5 * t + 5 ≤ N) (y1 y2 y3 y4 : Int32) (hy1 : xs (5 * t + 1) = y1) (hy2 : xs (5 * t + 2) = y2) (hy3 : xs (5 * t + 3) = y3) (hy4 : xs (5 * t + 4) = y4) (nk ml on : Nat) (tr : Int64) (kr sr : Nat → Option Nat) (ko : Nat → Nat → Int32) (kn : Nat → Nat) (kc sc : Nat → Int64) (sb : Nat → Nat) (sl msg ov bl f tn sk res : Nat → Int32) (fi cd : Int32) (foc fnx frd fbk foh fmk frw fot fmy fbd : Nat → Int32) (fis fco fl : Nat → Int64) (L : List Nat) (F : Nat → va_E) (I : LI E L F kr sr nk ml on ko kn kc sc sb sl msg ov fot foc fnx fbd fmy fis fco) (jn : JN g E A Q nm b t xx mm oc nx ia ms ot my co bd bk oh rd mk rw ss ka sa ma oa ba h0 r0 t0 c0 k0 x0 la) : G g (muL nm) E A (100 + 8 * t) (4000 + 64 * t) Q [(xx, .inr (6, [.ref ka, .int (nI (nk)), .ref sa, .long (tr), .ref ma, .int (nI (ml)), .ref oa, .int (nI (on)), .ref ba, .ref h0, .ref c0])), (mm, .inr (7, [.int (cd), .int (nI (nk)), .ref oc, .ref nx, .ref ia, .ref ms, .int (nI (ml)), .int (nI (on)), .ref ot, .long (tr), .ref my, .ref co, .ref bd, .ref bk, .ref oh, .ref rd, .ref mk, .ref rw, .ref ss])), (oc, aI E 272 (foc)), (nx, aI E 17 (fnx)), (ia, aJ E 17 (fis)), (ms, aI E 300 (msg)), (ot, aI E 16 (fot)), (my, aZ E 1105 (fmy)), (co, aJ E 65 (fco)), (bd, aI E 65 (fbd)), (bk, aI E 16 (fbk)), (oh, aI E 16 (foh)), (rd, aI E 176 (frd)), (mk, aI E 16 (fmk)), (rw, aI E 320 (frw)), (ss, aI E 256 (TB)), (ka, aK E 16 (kr)), (sa, aS E 64 (sr)), (ma, aI E 300 (msg)), (oa, aI E 16 (ov)), (ba, aI E 16 (bl)), (h0, .inr (2, [.ref r0, .ref t0])), (r0, aI E 176 (f)), (t0, aI E 16 (tn)), (c0, .inr (3, [.ref h0, .ref k0, .ref x0, .int (fi)])), (k0, aI E 16 (sk)), (x0, aI E 16 (res)), (la, aJ E 1 (fl))] L F 386 [(0, .ref b), (1, .ref xx), (2, .ref mm), (3, .ref la), (4, .int (nI (5 * t)))] [] := by
  obtain ⟨hnk, hml, hon, hmsg, hot, hPS, hMK, hMS, hSO⟩ := I
  refine g_aload_n C dL_law_386 rfl 1 rfl ?_
  refine g_aload_n C dL_law_387 rfl 0 rfl ?_
  refine g_iload C dL_law_388 4 rfl ?_
  refine g_iconst (v := nI (1)) C dL_law_390 (by decide) ?_
  refine g_iadd C dL_law_391 ?_
  refine g_asi (nI_add _ _) ?_
  refine g_sld C hS (by omega) (by omega) dL_law_392 ?_
  refine g_asi (show (xs ((5 * t) + 1)) = (y1) from hy1) ?_
  refine g_aload_n C dL_law_393 rfl 0 rfl ?_
  refine g_iload C dL_law_394 4 rfl ?_
  refine g_iconst (v := nI (2)) C dL_law_396 (by decide) ?_
  refine g_iadd C dL_law_397 ?_
  refine g_asi (nI_add _ _) ?_
  refine g_sld C hS (by omega) (by omega) dL_law_398 ?_
  refine g_asi (show (xs ((5 * t) + 2)) = (y2) from hy2) ?_
  refine g_aload_n C dL_law_399 rfl 0 rfl ?_
  refine g_iload C dL_law_400 4 rfl ?_
  refine g_iconst (v := nI (3)) C dL_law_402 (by decide) ?_
  refine g_iadd C dL_law_403 ?_
  refine g_asi (nI_add _ _) ?_
  refine g_sld C hS (by omega) (by omega) dL_law_404 ?_
  refine g_asi (show (xs ((5 * t) + 3)) = (y3) from hy3) ?_
  refine g_i2l (v := (y3).toInt64) C dL_law_405 rfl ?_
  refine g_bipush (v := nI (32)) C dL_law_406 (by decide) ?_
  refine g_lshl (v := ((y3).toInt64) <<< ((nI (32)).toInt64 &&& 63)) C dL_law_408 rfl ?_
  refine g_aload_n C dL_law_409 rfl 0 rfl ?_
  refine g_iload C dL_law_410 4 rfl ?_
  refine g_iconst (v := nI (4)) C dL_law_412 (by decide) ?_
  refine g_iadd C dL_law_413 ?_
  refine g_asi (nI_add _ _) ?_
  refine g_sld C hS (by omega) (by omega) dL_law_414 ?_
  refine g_asi (show (xs ((5 * t) + 4)) = (y4) from hy4) ?_
  refine g_i2l (v := (y4).toInt64) C dL_law_415 rfl ?_
  refine g_ldc2_w C m_575 dL_law_416 ?_
  refine g_land C dL_law_419 ?_
  refine g_lor C dL_law_420 ?_
  refine g_asl (show ((((y3).toInt64) <<< ((nI (32)).toInt64 &&& 63)) ||| (((y4).toInt64) &&& 4294967295)) = (cL y3 y4) from rfl) ?_
  refine g_callV (v := muX4_install) (cx := [(xx, .inr (6, [.ref ka, .int (nI (nk)), .ref sa, .long (tr), .ref ma, .int (nI (ml)), .ref oa, .int (nI (on)), .ref ba, .ref h0, .ref c0])), (ka, aK E 16 (kr)), (ma, aI E 300 (msg)), (ba, aI E 16 (bl)), (h0, .inr (2, [.ref r0, .ref t0])), (r0, aI E 176 (f)), (t0, aI E 16 (tn)), (c0, .inr (3, [.ref h0, .ref k0, .ref x0, .int (fi)])), (k0, aI E 16 (sk)), (x0, aI E 16 (res))]) C (k_X4_install (gl g) E xx ka sa ma oa ba h0 c0 nk ml on tr kr sr ko kn kc sc sb sl r0 t0 k0 x0 f tn sk res fi bl msg y1 y2 (cL y3 y4) L F hnk hml hPS) [0, 16, 18, 20, 21, 22, 23, 24, 25, 26] rfl (by decide) 0 rfl rfl gi_L_60 hd_X4_install ⟨Nat.le_of_ble_eq_true rfl, Nat.le_of_ble_eq_true rfl⟩ rfl rfl (Nat.le_of_ble_eq_true rfl) ⟨by show 100 + 8 * t + 0 ≤ 603072; omega, by show 4000 + 64 * t + 0 ≤ 7190633; omega⟩ dL_law_421 (fun r9 cx9 L9 F9 hp9 hf9 hN9 => ?_)
  obtain ⟨r1, ml1, F1, ko1, kn1, kc1, f1, tn1, sk1, res1, fi1, bl1, rfl, rfl, rfl, rfl, hps1, he1⟩ := hp9
  show G g (muL nm) E A (100 + 8 * t) (4000 + 64 * t) Q [(xx, .inr (6, [.ref ka, .int (nI (nk)), .ref sa, .long (tr), .ref ma, .int (nI (ml1)), .ref oa, .int (nI (on)), .ref ba, .ref h0, .ref c0])), (mm, .inr (7, [.int (cd), .int (nI (nk)), .ref oc, .ref nx, .ref ia, .ref ms, .int (nI (ml)), .int (nI (on)), .ref ot, .long (tr), .ref my, .ref co, .ref bd, .ref bk, .ref oh, .ref rd, .ref mk, .ref rw, .ref ss])), (oc, aI E 272 (foc)), (nx, aI E 17 (fnx)), (ia, aJ E 17 (fis)), (ms, aI E 300 (msg)), (ot, aI E 16 (fot)), (my, aZ E 1105 (fmy)), (co, aJ E 65 (fco)), (bd, aI E 65 (fbd)), (bk, aI E 16 (fbk)), (oh, aI E 16 (foh)), (rd, aI E 176 (frd)), (mk, aI E 16 (fmk)), (rw, aI E 320 (frw)), (ss, aI E 256 (TB)), (ka, aK E 16 (kr)), (sa, aS E 64 (sr)), (ma, aI E 300 (msg)), (oa, aI E 16 (ov)), (ba, aI E 16 (bl1)), (h0, .inr (2, [.ref r0, .ref t0])), (r0, aI E 176 (f1)), (t0, aI E 16 (tn1)), (c0, .inr (3, [.ref h0, .ref k0, .ref x0, .int (fi1)])), (k0, aI E 16 (sk1)), (x0, aI E 16 (res1)), (la, aJ E 1 (fl))] L F1 424 [(0, .ref b), (1, .ref xx), (2, .ref mm), (3, .ref la), (4, .int (nI (5 * t)))] [.int (r1)]
  refine g_aload_n C dL_law_424 rfl 2 rfl ?_
  refine g_aload_n C dL_law_425 rfl 0 rfl ?_
  refine g_iload C dL_law_426 4 rfl ?_
  refine g_iconst (v := nI (1)) C dL_law_428 (by decide) ?_
  refine g_iadd C dL_law_429 ?_
  refine g_asi (nI_add _ _) ?_
  refine g_sld C hS (by omega) (by omega) dL_law_430 ?_
  refine g_asi (show (xs ((5 * t) + 1)) = (y1) from hy1) ?_
  refine g_aload_n C dL_law_431 rfl 0 rfl ?_
  refine g_iload C dL_law_432 4 rfl ?_
  refine g_iconst (v := nI (2)) C dL_law_434 (by decide) ?_
  refine g_iadd C dL_law_435 ?_
  refine g_asi (nI_add _ _) ?_
  refine g_sld C hS (by omega) (by omega) dL_law_436 ?_
  refine g_asi (show (xs ((5 * t) + 2)) = (y2) from hy2) ?_
  refine g_aload_n C dL_law_437 rfl 0 rfl ?_
  refine g_iload C dL_law_438 4 rfl ?_
  refine g_iconst (v := nI (3)) C dL_law_440 (by decide) ?_
  refine g_iadd C dL_law_441 ?_
  refine g_asi (nI_add _ _) ?_
  refine g_sld C hS (by omega) (by omega) dL_law_442 ?_
  refine g_asi (show (xs ((5 * t) + 3)) = (y3) from hy3) ?_
  refine g_i2l (v := (y3).toInt64) C dL_law_443 rfl ?_
  refine g_bipush (v := nI (32)) C dL_law_444 (by decide) ?_
  refine g_lshl (v := ((y3).toInt64) <<< ((nI (32)).toInt64 &&& 63)) C dL_law_446 rfl ?_
  refine g_aload_n C dL_law_447 rfl 0 rfl ?_
  refine g_iload C dL_law_448 4 rfl ?_
  refine g_iconst (v := nI (4)) C dL_law_450 (by decide) ?_
  refine g_iadd C dL_law_451 ?_
  refine g_asi (nI_add _ _) ?_
  refine g_sld C hS (by omega) (by omega) dL_law_452 ?_
  refine g_asi (show (xs ((5 * t) + 4)) = (y4) from hy4) ?_
  refine g_i2l (v := (y4).toInt64) C dL_law_453 rfl ?_
  refine g_ldc2_w C m_575 dL_law_454 ?_
  refine g_land C dL_law_457 ?_
  refine g_lor C dL_law_458 ?_
  refine g_asl (show ((((y3).toInt64) <<< ((nI (32)).toInt64 &&& 63)) ||| (((y4).toInt64) &&& 4294967295)) = (cL y3 y4) from rfl) ?_
  refine g_callV (v := muX5_install) (cx := [(mm, .inr (7, [.int (cd), .int (nI (nk)), .ref oc, .ref nx, .ref ia, .ref ms, .int (nI (ml)), .int (nI (on)), .ref ot, .long (tr), .ref my, .ref co, .ref bd, .ref bk, .ref oh, .ref rd, .ref mk, .ref rw, .ref ss])), (oc, aI E 272 (foc)), (nx, aI E 17 (fnx)), (ia, aJ E 17 (fis)), (rd, aI E 176 (frd)), (ss, aI E 256 (TB)), (bk, aI E 16 (fbk)), (oh, aI E 16 (foh)), (mk, aI E 16 (fmk)), (rw, aI E 320 (frw)), (ms, aI E 300 (msg))]) C (k_X5_install (gl g) E mm oc nx ia ms ot my co bd bk oh rd mk rw ss cd nk ml on tr foc fnx frd fbk foh fmk frw msg fis ko kn kc y1 y2 (cL y3 y4) L F1 hnk hMK hmsg hml) [1, 2, 3, 4, 12, 15, 10, 11, 13, 14, 5] rfl (by decide) 1 rfl rfl gi_L_64 hd_X5_install ⟨Nat.le_of_ble_eq_true rfl, Nat.le_of_ble_eq_true rfl⟩ rfl rfl (Nat.le_of_ble_eq_true rfl) ⟨by show 100 + 8 * t + 0 ≤ 603072; omega, by show 4000 + 64 * t + 0 ≤ 7190633; omega⟩ dL_law_459 (fun r9 cx9 L9 F9 hp9 hf9 hN9 => ?_)
  obtain ⟨ml2, foc1, fnx1, fis1, frd1, fbk1, foh1, fmk1, frw1, rfl, rfl, rfl, rfl, hm2, hk2⟩ := hp9
  show G g (muL nm) E A (100 + 8 * t) (4000 + 64 * t) Q [(xx, .inr (6, [.ref ka, .int (nI (nk)), .ref sa, .long (tr), .ref ma, .int (nI (ml1)), .ref oa, .int (nI (on)), .ref ba, .ref h0, .ref c0])), (mm, .inr (7, [.int (nI 0), .int (nI (nk)), .ref oc, .ref nx, .ref ia, .ref ms, .int (nI (ml2)), .int (nI (on)), .ref ot, .long (tr), .ref my, .ref co, .ref bd, .ref bk, .ref oh, .ref rd, .ref mk, .ref rw, .ref ss])), (oc, aI E 272 (foc1)), (nx, aI E 17 (fnx1)), (ia, aJ E 17 (fis1)), (ms, aI E 300 (msg)), (ot, aI E 16 (fot)), (my, aZ E 1105 (fmy)), (co, aJ E 65 (fco)), (bd, aI E 65 (fbd)), (bk, aI E 16 (fbk1)), (oh, aI E 16 (foh1)), (rd, aI E 176 (frd1)), (mk, aI E 16 (fmk1)), (rw, aI E 320 (frw1)), (ss, aI E 256 (TB)), (ka, aK E 16 (kr)), (sa, aS E 64 (sr)), (ma, aI E 300 (msg)), (oa, aI E 16 (ov)), (ba, aI E 16 (bl1)), (h0, .inr (2, [.ref r0, .ref t0])), (r0, aI E 176 (f1)), (t0, aI E 16 (tn1)), (c0, .inr (3, [.ref h0, .ref k0, .ref x0, .int (fi1)])), (k0, aI E 16 (sk1)), (x0, aI E 16 (res1)), (la, aJ E 1 (fl))] L F1 462 [(0, .ref b), (1, .ref xx), (2, .ref mm), (3, .ref la), (4, .int (nI (5 * t)))] [.int ((isS nk ko kn kc ml msg y1 y2 (cL y3 y4)).1), .int (r1)]
  refine g_icmp_eq (tgt := 639) C dL_law_462 (by decide) (fun c462 => ?_) (fun c462 => ?_)
  · skip
    have hc1 := is_ok (nk := nk) (ko := ko) (kn := kn) (kc := kc) (msg := msg) y1 y2 (cL y3 y4) hml
    obtain rfl : ml1 = ml2 := by rw [hm2, ← he1]
    rw [← he1] at hc1 hk2
    refine g_cells (ce' := 100 + 8 * t + 8) (sl' := 4000 + 64 * t + 64) (by omega) (by omega) ?_
    exact jn nk ml1 on tr kr sr ko1 kn1 kc1 sc sb sl msg ov bl1 f1 tn1 sk1 res1 fi1 (nI 0) foc1 fnx1 frd1 fbk1 foh1 fmk1 frw1 fot fmy fbd fis1 fco fl L F1 ⟨hnk, hc1, hon, hmsg, hot, hps1, hk2, hMS, hSO⟩
  · skip
    exact absurd (congrArg Prod.fst he1) c462
set_option maxHeartbeats 4000000 in
set_option maxRecDepth 100000 in
theorem law_c8 {g : Gm} {E : Ev} {A : Nat → Prop} {Q : State → Prop} {nm : String} {b N t : Nat} {xs : Nat → Int32} {xx mm oc nx ia ms ot my co bd bk oh rd mk rw ss ka sa ma oa ba h0 r0 t0 c0 k0 x0 la : Nat} (C : Cx g (muL nm) E A) (T : TT A (gs g) (gs g).heap) (hl : (gl g).stackTraces = false) (hS : SC g A b N xs) (hN : N ≤ 2560) (ht : 5 * t + 5 ≤ N) (y1 y2 y3 y4 : Int32) (hy1 : xs (5 * t + 1) = y1) (hy2 : xs (5 * t + 2) = y2) (hy3 : xs (5 * t + 3) = y3) (hy4 : xs (5 * t + 4) = y4) (nk ml on : Nat) (tr : Int64) (kr sr : Nat → Option Nat) (ko : Nat → Nat → Int32) (kn : Nat → Nat) (kc sc : Nat → Int64) (sb : Nat → Nat) (sl msg ov bl f tn sk res : Nat → Int32) (fi cd : Int32) (foc fnx frd fbk foh fmk frw fot fmy fbd : Nat → Int32) (fis fco fl : Nat → Int64) (L : List Nat) (F : Nat → va_E) (I : LI E L F kr sr nk ml on ko kn kc sc sb sl msg ov fot foc fnx fbd fmy fis fco) (jn : JN g E A Q nm b t xx mm oc nx ia ms ot my co bd bk oh rd mk rw ss ka sa ma oa ba h0 r0 t0 c0 k0 x0 la) : G g (muL nm) E A (100 + 8 * t) (4000 + 64 * t) Q [(xx, .inr (6, [.ref ka, .int (nI (nk)), .ref sa, .long (tr), .ref ma, .int (nI (ml)), .ref oa, .int (nI (on)), .ref ba, .ref h0, .ref c0])), (mm, .inr (7, [.int (cd), .int (nI (nk)), .ref oc, .ref nx, .ref ia, .ref ms, .int (nI (ml)), .int (nI (on)), .ref ot, .long (tr), .ref my, .ref co, .ref bd, .ref bk, .ref oh, .ref rd, .ref mk, .ref rw, .ref ss])), (oc, aI E 272 (foc)), (nx, aI E 17 (fnx)), (ia, aJ E 17 (fis)), (ms, aI E 300 (msg)), (ot, aI E 16 (fot)), (my, aZ E 1105 (fmy)), (co, aJ E 65 (fco)), (bd, aI E 65 (fbd)), (bk, aI E 16 (fbk)), (oh, aI E 16 (foh)), (rd, aI E 176 (frd)), (mk, aI E 16 (fmk)), (rw, aI E 320 (frw)), (ss, aI E 256 (TB)), (ka, aK E 16 (kr)), (sa, aS E 64 (sr)), (ma, aI E 300 (msg)), (oa, aI E 16 (ov)), (ba, aI E 16 (bl)), (h0, .inr (2, [.ref r0, .ref t0])), (r0, aI E 176 (f)), (t0, aI E 16 (tn)), (c0, .inr (3, [.ref h0, .ref k0, .ref x0, .int (fi)])), (k0, aI E 16 (sk)), (x0, aI E 16 (res)), (la, aJ E 1 (fl))] L F 467 [(0, .ref b), (1, .ref xx), (2, .ref mm), (3, .ref la), (4, .int (nI (5 * t)))] [] := by
  obtain ⟨hnk, hml, hon, hmsg, hot, hPS, hMK, hMS, hSO⟩ := I
  refine g_aload_n C dL_law_467 rfl 1 rfl ?_
  refine g_aload_n C dL_law_468 rfl 0 rfl ?_
  refine g_iload C dL_law_469 4 rfl ?_
  refine g_iconst (v := nI (1)) C dL_law_471 (by decide) ?_
  refine g_iadd C dL_law_472 ?_
  refine g_asi (nI_add _ _) ?_
  refine g_sld C hS (by omega) (by omega) dL_law_473 ?_
  refine g_asi (show (xs ((5 * t) + 1)) = (y1) from hy1) ?_
  refine g_callV (v := muX4_check) (cx := [(xx, .inr (6, [.ref ka, .int (nI (nk)), .ref sa, .long (tr), .ref ma, .int (nI (ml)), .ref oa, .int (nI (on)), .ref ba, .ref h0, .ref c0])), (ka, aK E 16 (kr)), (ba, aI E 16 (bl)), (h0, .inr (2, [.ref r0, .ref t0])), (r0, aI E 176 (f)), (t0, aI E 16 (tn))]) C (k_X4_check (gl g) E xx ka sa ma oa ba h0 c0 nk ml on tr kr sr ko kn kc sc sb sl r0 t0 f tn bl y1 L F hnk hPS) [0, 16, 20, 21, 22, 23] rfl (by decide) 0 rfl rfl gi_L_65 hd_X4_check ⟨Nat.le_of_ble_eq_true rfl, Nat.le_of_ble_eq_true rfl⟩ rfl rfl (Nat.le_of_ble_eq_true rfl) ⟨by show 100 + 8 * t + 0 ≤ 603072; omega, by show 4000 + 64 * t + 0 ≤ 7190633; omega⟩ dL_law_474 (fun r9 cx9 L9 F9 hp9 hf9 hN9 => ?_)
  obtain ⟨f1, tn1, bl1, rfl, rfl, rfl, rfl, -⟩ := hp9
  show G g (muL nm) E A (100 + 8 * t) (4000 + 64 * t) Q [(xx, .inr (6, [.ref ka, .int (nI (nk)), .ref sa, .long (tr), .ref ma, .int (nI (ml)), .ref oa, .int (nI (on)), .ref ba, .ref h0, .ref c0])), (mm, .inr (7, [.int (cd), .int (nI (nk)), .ref oc, .ref nx, .ref ia, .ref ms, .int (nI (ml)), .int (nI (on)), .ref ot, .long (tr), .ref my, .ref co, .ref bd, .ref bk, .ref oh, .ref rd, .ref mk, .ref rw, .ref ss])), (oc, aI E 272 (foc)), (nx, aI E 17 (fnx)), (ia, aJ E 17 (fis)), (ms, aI E 300 (msg)), (ot, aI E 16 (fot)), (my, aZ E 1105 (fmy)), (co, aJ E 65 (fco)), (bd, aI E 65 (fbd)), (bk, aI E 16 (fbk)), (oh, aI E 16 (foh)), (rd, aI E 176 (frd)), (mk, aI E 16 (fmk)), (rw, aI E 320 (frw)), (ss, aI E 256 (TB)), (ka, aK E 16 (kr)), (sa, aS E 64 (sr)), (ma, aI E 300 (msg)), (oa, aI E 16 (ov)), (ba, aI E 16 (bl1)), (h0, .inr (2, [.ref r0, .ref t0])), (r0, aI E 176 (f1)), (t0, aI E 16 (tn1)), (c0, .inr (3, [.ref h0, .ref k0, .ref x0, .int (fi)])), (k0, aI E 16 (sk)), (x0, aI E 16 (res)), (la, aJ E 1 (fl))] L F 477 [(0, .ref b), (1, .ref xx), (2, .ref mm), (3, .ref la), (4, .int (nI (5 * t)))] [.int (ckS nk ko y1)]
  refine g_aload_n C dL_law_477 rfl 2 rfl ?_
  refine g_aload_n C dL_law_478 rfl 0 rfl ?_
  refine g_iload C dL_law_479 4 rfl ?_
  refine g_iconst (v := nI (1)) C dL_law_481 (by decide) ?_
  refine g_iadd C dL_law_482 ?_
  refine g_asi (nI_add _ _) ?_
  refine g_sld C hS (by omega) (by omega) dL_law_483 ?_
  refine g_asi (show (xs ((5 * t) + 1)) = (y1) from hy1) ?_
  refine g_callV (v := muX5_check) (cx := [(mm, .inr (7, [.int (cd), .int (nI (nk)), .ref oc, .ref nx, .ref ia, .ref ms, .int (nI (ml)), .int (nI (on)), .ref ot, .long (tr), .ref my, .ref co, .ref bd, .ref bk, .ref oh, .ref rd, .ref mk, .ref rw, .ref ss])), (oc, aI E 272 (foc)), (rd, aI E 176 (frd)), (ss, aI E 256 (TB)), (bk, aI E 16 (fbk)), (oh, aI E 16 (foh))]) C (k_X5_check (gl g) E mm oc nx ia ms ot my co bd bk oh rd mk rw ss cd nk ml on tr foc fnx frd fbk foh fis ko kn kc y1 L F hnk hMK) [1, 2, 12, 15, 10, 11] rfl (by decide) 1 rfl rfl gi_L_69 hd_X5_check ⟨Nat.le_of_ble_eq_true rfl, Nat.le_of_ble_eq_true rfl⟩ rfl rfl (Nat.le_of_ble_eq_true rfl) ⟨by show 100 + 8 * t + 0 ≤ 603072; omega, by show 4000 + 64 * t + 0 ≤ 7190633; omega⟩ dL_law_484 (fun r9 cx9 L9 F9 hp9 hf9 hN9 => ?_)
  obtain ⟨frd1, fbk1, foh1, rfl, rfl, rfl, rfl, -⟩ := hp9
  show G g (muL nm) E A (100 + 8 * t) (4000 + 64 * t) Q [(xx, .inr (6, [.ref ka, .int (nI (nk)), .ref sa, .long (tr), .ref ma, .int (nI (ml)), .ref oa, .int (nI (on)), .ref ba, .ref h0, .ref c0])), (mm, .inr (7, [.int (nI 0), .int (nI (nk)), .ref oc, .ref nx, .ref ia, .ref ms, .int (nI (ml)), .int (nI (on)), .ref ot, .long (tr), .ref my, .ref co, .ref bd, .ref bk, .ref oh, .ref rd, .ref mk, .ref rw, .ref ss])), (oc, aI E 272 (foc)), (nx, aI E 17 (fnx)), (ia, aJ E 17 (fis)), (ms, aI E 300 (msg)), (ot, aI E 16 (fot)), (my, aZ E 1105 (fmy)), (co, aJ E 65 (fco)), (bd, aI E 65 (fbd)), (bk, aI E 16 (fbk1)), (oh, aI E 16 (foh1)), (rd, aI E 176 (frd1)), (mk, aI E 16 (fmk)), (rw, aI E 320 (frw)), (ss, aI E 256 (TB)), (ka, aK E 16 (kr)), (sa, aS E 64 (sr)), (ma, aI E 300 (msg)), (oa, aI E 16 (ov)), (ba, aI E 16 (bl1)), (h0, .inr (2, [.ref r0, .ref t0])), (r0, aI E 176 (f1)), (t0, aI E 16 (tn1)), (c0, .inr (3, [.ref h0, .ref k0, .ref x0, .int (fi)])), (k0, aI E 16 (sk)), (x0, aI E 16 (res)), (la, aJ E 1 (fl))] L F 487 [(0, .ref b), (1, .ref xx), (2, .ref mm), (3, .ref la), (4, .int (nI (5 * t)))] [.int (ckS nk ko y1), .int (ckS nk ko y1)]
  refine g_icmp_eq (tgt := 639) C dL_law_487 (by decide) (fun c487 => ?_) (fun c487 => ?_)
  · skip
    refine g_cells (ce' := 100 + 8 * t + 8) (sl' := 4000 + 64 * t + 64) (by omega) (by omega) ?_
    exact jn nk ml on tr kr sr ko kn kc sc sb sl msg ov bl1 f1 tn1 sk res fi (nI 0) foc fnx frd1 fbk1 foh1 fmk frw fot fmy fbd fis fco fl L F ⟨hnk, hml, hon, hmsg, hot, hPS, hMK, hMS, hSO⟩
  · skip
    exact absurd (rfl) c487
set_option maxHeartbeats 4000000 in
set_option maxRecDepth 100000 in
theorem law_c9 {g : Gm} {E : Ev} {A : Nat → Prop} {Q : State → Prop} {nm : String} {b N t : Nat} {xs : Nat → Int32} {xx mm oc nx ia ms ot my co bd bk oh rd mk rw ss ka sa ma oa ba h0 r0 t0 c0 k0 x0 la : Nat} (C : Cx g (muL nm) E A) (T : TT A (gs g) (gs g).heap) (hl : (gl g).stackTraces = false) (hS : SC g A b N xs) (hN : N ≤ 2560) (ht : 5 * t + 5 ≤ N) (y1 y2 y3 y4 : Int32) (hy1 : xs (5 * t + 1) = y1) (hy2 : xs (5 * t + 2) = y2) (hy3 : xs (5 * t + 3) = y3) (hy4 : xs (5 * t + 4) = y4) (nk ml on : Nat) (tr : Int64) (kr sr : Nat → Option Nat) (ko : Nat → Nat → Int32) (kn : Nat → Nat) (kc sc : Nat → Int64) (sb : Nat → Nat) (sl msg ov bl f tn sk res : Nat → Int32) (fi cd : Int32) (foc fnx frd fbk foh fmk frw fot fmy fbd : Nat → Int32) (fis fco fl : Nat → Int64) (L : List Nat) (F : Nat → va_E) (I : LI E L F kr sr nk ml on ko kn kc sc sb sl msg ov fot foc fnx fbd fmy fis fco) (jn : JN g E A Q nm b t xx mm oc nx ia ms ot my co bd bk oh rd mk rw ss ka sa ma oa ba h0 r0 t0 c0 k0 x0 la) : G g (muL nm) E A (100 + 8 * t) (4000 + 64 * t) Q [(xx, .inr (6, [.ref ka, .int (nI (nk)), .ref sa, .long (tr), .ref ma, .int (nI (ml)), .ref oa, .int (nI (on)), .ref ba, .ref h0, .ref c0])), (mm, .inr (7, [.int (cd), .int (nI (nk)), .ref oc, .ref nx, .ref ia, .ref ms, .int (nI (ml)), .int (nI (on)), .ref ot, .long (tr), .ref my, .ref co, .ref bd, .ref bk, .ref oh, .ref rd, .ref mk, .ref rw, .ref ss])), (oc, aI E 272 (foc)), (nx, aI E 17 (fnx)), (ia, aJ E 17 (fis)), (ms, aI E 300 (msg)), (ot, aI E 16 (fot)), (my, aZ E 1105 (fmy)), (co, aJ E 65 (fco)), (bd, aI E 65 (fbd)), (bk, aI E 16 (fbk)), (oh, aI E 16 (foh)), (rd, aI E 176 (frd)), (mk, aI E 16 (fmk)), (rw, aI E 320 (frw)), (ss, aI E 256 (TB)), (ka, aK E 16 (kr)), (sa, aS E 64 (sr)), (ma, aI E 300 (msg)), (oa, aI E 16 (ov)), (ba, aI E 16 (bl)), (h0, .inr (2, [.ref r0, .ref t0])), (r0, aI E 176 (f)), (t0, aI E 16 (tn)), (c0, .inr (3, [.ref h0, .ref k0, .ref x0, .int (fi)])), (k0, aI E 16 (sk)), (x0, aI E 16 (res)), (la, aJ E 1 (fl))] L F 492 [(0, .ref b), (1, .ref xx), (2, .ref mm), (3, .ref la), (4, .int (nI (5 * t)))] [] := by
  obtain ⟨hnk, hml, hon, hmsg, hot, hPS, hMK, hMS, hSO⟩ := I
  refine g_aload_n C dL_law_492 rfl 1 rfl ?_
  refine g_aload_n C dL_law_493 rfl 0 rfl ?_
  refine g_iload C dL_law_494 4 rfl ?_
  refine g_iconst (v := nI (1)) C dL_law_496 (by decide) ?_
  refine g_iadd C dL_law_497 ?_
  refine g_asi (nI_add _ _) ?_
  refine g_sld C hS (by omega) (by omega) dL_law_498 ?_
  refine g_asi (show (xs ((5 * t) + 1)) = (y1) from hy1) ?_
  refine g_i2l (v := (y1).toInt64) C dL_law_499 rfl ?_
  refine g_bipush (v := nI (32)) C dL_law_500 (by decide) ?_
  refine g_lshl (v := ((y1).toInt64) <<< ((nI (32)).toInt64 &&& 63)) C dL_law_502 rfl ?_
  refine g_aload_n C dL_law_503 rfl 0 rfl ?_
  refine g_iload C dL_law_504 4 rfl ?_
  refine g_iconst (v := nI (2)) C dL_law_506 (by decide) ?_
  refine g_iadd C dL_law_507 ?_
  refine g_asi (nI_add _ _) ?_
  refine g_sld C hS (by omega) (by omega) dL_law_508 ?_
  refine g_asi (show (xs ((5 * t) + 2)) = (y2) from hy2) ?_
  refine g_i2l (v := (y2).toInt64) C dL_law_509 rfl ?_
  refine g_ldc2_w C m_575 dL_law_510 ?_
  refine g_land C dL_law_513 ?_
  refine g_lor C dL_law_514 ?_
  refine g_asl (show ((((y1).toInt64) <<< ((nI (32)).toInt64 &&& 63)) ||| (((y2).toInt64) &&& 4294967295)) = (cL y1 y2) from rfl) ?_
  refine g_callV (v := muX4_trip) (cx := [(xx, .inr (6, [.ref ka, .int (nI (nk)), .ref sa, .long (tr), .ref ma, .int (nI (ml)), .ref oa, .int (nI (on)), .ref ba, .ref h0, .ref c0])), (sa, aS E 64 (sr))]) C (k_X4_trip (gl g) E xx ka sa ma oa ba h0 c0 nk ml on tr kr sr ko kn kc sc sb sl (cL y1 y2) L F hPS) [0, 17] rfl (by decide) 0 rfl rfl gi_L_70 hd_X4_trip ⟨Nat.le_of_ble_eq_true rfl, Nat.le_of_ble_eq_true rfl⟩ rfl rfl (Nat.le_of_ble_eq_true rfl) ⟨by show 100 + 8 * t + 0 ≤ 603072; omega, by show 4000 + 64 * t + 0 ≤ 7190633; omega⟩ dL_law_515 (fun r9 cx9 L9 F9 hp9 hf9 hN9 => ?_)
  obtain ⟨r1, tr1, F1, sc1, sb1, rfl, rfl, rfl, rfl, hps1, he1⟩ := hp9
  show G g (muL nm) E A (100 + 8 * t) (4000 + 64 * t) Q [(xx, .inr (6, [.ref ka, .int (nI (nk)), .ref sa, .long (tr1), .ref ma, .int (nI (ml)), .ref oa, .int (nI (on)), .ref ba, .ref h0, .ref c0])), (mm, .inr (7, [.int (cd), .int (nI (nk)), .ref oc, .ref nx, .ref ia, .ref ms, .int (nI (ml)), .int (nI (on)), .ref ot, .long (tr), .ref my, .ref co, .ref bd, .ref bk, .ref oh, .ref rd, .ref mk, .ref rw, .ref ss])), (oc, aI E 272 (foc)), (nx, aI E 17 (fnx)), (ia, aJ E 17 (fis)), (ms, aI E 300 (msg)), (ot, aI E 16 (fot)), (my, aZ E 1105 (fmy)), (co, aJ E 65 (fco)), (bd, aI E 65 (fbd)), (bk, aI E 16 (fbk)), (oh, aI E 16 (foh)), (rd, aI E 176 (frd)), (mk, aI E 16 (fmk)), (rw, aI E 320 (frw)), (ss, aI E 256 (TB)), (ka, aK E 16 (kr)), (sa, aS E 64 (sr)), (ma, aI E 300 (msg)), (oa, aI E 16 (ov)), (ba, aI E 16 (bl)), (h0, .inr (2, [.ref r0, .ref t0])), (r0, aI E 176 (f)), (t0, aI E 16 (tn)), (c0, .inr (3, [.ref h0, .ref k0, .ref x0, .int (fi)])), (k0, aI E 16 (sk)), (x0, aI E 16 (res)), (la, aJ E 1 (fl))] L F1 518 [(0, .ref b), (1, .ref xx), (2, .ref mm), (3, .ref la), (4, .int (nI (5 * t)))] [.int (r1)]
  refine g_aload_n C dL_law_518 rfl 2 rfl ?_
  refine g_aload_n C dL_law_519 rfl 0 rfl ?_
  refine g_iload C dL_law_520 4 rfl ?_
  refine g_iconst (v := nI (1)) C dL_law_522 (by decide) ?_
  refine g_iadd C dL_law_523 ?_
  refine g_asi (nI_add _ _) ?_
  refine g_sld C hS (by omega) (by omega) dL_law_524 ?_
  refine g_asi (show (xs ((5 * t) + 1)) = (y1) from hy1) ?_
  refine g_i2l (v := (y1).toInt64) C dL_law_525 rfl ?_
  refine g_bipush (v := nI (32)) C dL_law_526 (by decide) ?_
  refine g_lshl (v := ((y1).toInt64) <<< ((nI (32)).toInt64 &&& 63)) C dL_law_528 rfl ?_
  refine g_aload_n C dL_law_529 rfl 0 rfl ?_
  refine g_iload C dL_law_530 4 rfl ?_
  refine g_iconst (v := nI (2)) C dL_law_532 (by decide) ?_
  refine g_iadd C dL_law_533 ?_
  refine g_asi (nI_add _ _) ?_
  refine g_sld C hS (by omega) (by omega) dL_law_534 ?_
  refine g_asi (show (xs ((5 * t) + 2)) = (y2) from hy2) ?_
  refine g_i2l (v := (y2).toInt64) C dL_law_535 rfl ?_
  refine g_ldc2_w C m_575 dL_law_536 ?_
  refine g_land C dL_law_539 ?_
  refine g_lor C dL_law_540 ?_
  refine g_asl (show ((((y1).toInt64) <<< ((nI (32)).toInt64 &&& 63)) ||| (((y2).toInt64) &&& 4294967295)) = (cL y1 y2) from rfl) ?_
  refine g_callV (v := muX5_trip) (cx := [(mm, .inr (7, [.int (cd), .int (nI (nk)), .ref oc, .ref nx, .ref ia, .ref ms, .int (nI (ml)), .int (nI (on)), .ref ot, .long (tr), .ref my, .ref co, .ref bd, .ref bk, .ref oh, .ref rd, .ref mk, .ref rw, .ref ss])), (co, aJ E 65 (fco)), (bd, aI E 65 (fbd))]) C (k_X5_trip (gl g) E mm oc nx ia ms ot my co bd bk oh rd mk rw ss cd nk ml on tr fco fbd fmy sc sb sl (cL y1 y2) L F1 hMS) [1, 8, 9] rfl (by decide) 1 rfl rfl gi_L_74 hd_X5_trip ⟨Nat.le_of_ble_eq_true rfl, Nat.le_of_ble_eq_true rfl⟩ rfl rfl (Nat.le_of_ble_eq_true rfl) ⟨by show 100 + 8 * t + 0 ≤ 603072; omega, by show 4000 + 64 * t + 0 ≤ 7190633; omega⟩ dL_law_541 (fun r9 cx9 L9 F9 hp9 hf9 hN9 => ?_)
  obtain ⟨tr2, fco1, fbd1, rfl, rfl, rfl, rfl, hm2, hs2⟩ := hp9
  show G g (muL nm) E A (100 + 8 * t) (4000 + 64 * t) Q [(xx, .inr (6, [.ref ka, .int (nI (nk)), .ref sa, .long (tr1), .ref ma, .int (nI (ml)), .ref oa, .int (nI (on)), .ref ba, .ref h0, .ref c0])), (mm, .inr (7, [.int (nI 0), .int (nI (nk)), .ref oc, .ref nx, .ref ia, .ref ms, .int (nI (ml)), .int (nI (on)), .ref ot, .long (tr2), .ref my, .ref co, .ref bd, .ref bk, .ref oh, .ref rd, .ref mk, .ref rw, .ref ss])), (oc, aI E 272 (foc)), (nx, aI E 17 (fnx)), (ia, aJ E 17 (fis)), (ms, aI E 300 (msg)), (ot, aI E 16 (fot)), (my, aZ E 1105 (fmy)), (co, aJ E 65 (fco1)), (bd, aI E 65 (fbd1)), (bk, aI E 16 (fbk)), (oh, aI E 16 (foh)), (rd, aI E 176 (frd)), (mk, aI E 16 (fmk)), (rw, aI E 320 (frw)), (ss, aI E 256 (TB)), (ka, aK E 16 (kr)), (sa, aS E 64 (sr)), (ma, aI E 300 (msg)), (oa, aI E 16 (ov)), (ba, aI E 16 (bl)), (h0, .inr (2, [.ref r0, .ref t0])), (r0, aI E 176 (f)), (t0, aI E 16 (tn)), (c0, .inr (3, [.ref h0, .ref k0, .ref x0, .int (fi)])), (k0, aI E 16 (sk)), (x0, aI E 16 (res)), (la, aJ E 1 (fl))] L F1 544 [(0, .ref b), (1, .ref xx), (2, .ref mm), (3, .ref la), (4, .int (nI (5 * t)))] [.int ((trS tr sc sb (cL y1 y2)).1), .int (r1)]
  refine g_icmp_eq (tgt := 639) C dL_law_544 (by decide) (fun c544 => ?_) (fun c544 => ?_)
  · skip
    have hc1 := tr_ok (tr := tr) (cL y1 y2) hSO
    obtain rfl : tr1 = tr2 := by rw [hm2, ← he1]
    rw [← he1] at hc1 hs2
    refine g_cells (ce' := 100 + 8 * t + 8) (sl' := 4000 + 64 * t + 64) (by omega) (by omega) ?_
    exact jn nk ml on tr1 kr sr ko kn kc sc1 sb1 sl msg ov bl f tn sk res fi (nI 0) foc fnx frd fbk foh fmk frw fot fmy fbd1 fis fco1 fl L F1 ⟨hnk, hml, hon, hmsg, hot, hps1, hMK, hs2, hc1⟩
  · skip
    exact absurd (congrArg Prod.fst he1) c544
set_option maxHeartbeats 4000000 in
set_option maxRecDepth 100000 in
theorem law_c10 {g : Gm} {E : Ev} {A : Nat → Prop} {Q : State → Prop} {nm : String} {b N t : Nat} {xs : Nat → Int32} {xx mm oc nx ia ms ot my co bd bk oh rd mk rw ss ka sa ma oa ba h0 r0 t0 c0 k0 x0 la : Nat} (C : Cx g (muL nm) E A) (T : TT A (gs g) (gs g).heap) (hl : (gl g).stackTraces = false) (hS : SC g A b N xs) (hN : N ≤ 2560) (ht : 5 * t + 5 ≤ N) (y1 y2 y3 y4 : Int32) (hy1 : xs (5 * t + 1) = y1) (hy2 : xs (5 * t + 2) = y2) (hy3 : xs (5 * t + 3) = y3) (hy4 : xs (5 * t + 4) = y4) (nk ml on : Nat) (tr : Int64) (kr sr : Nat → Option Nat) (ko : Nat → Nat → Int32) (kn : Nat → Nat) (kc sc : Nat → Int64) (sb : Nat → Nat) (sl msg ov bl f tn sk res : Nat → Int32) (fi cd : Int32) (foc fnx frd fbk foh fmk frw fot fmy fbd : Nat → Int32) (fis fco fl : Nat → Int64) (L : List Nat) (F : Nat → va_E) (I : LI E L F kr sr nk ml on ko kn kc sc sb sl msg ov fot foc fnx fbd fmy fis fco) (jn : JN g E A Q nm b t xx mm oc nx ia ms ot my co bd bk oh rd mk rw ss ka sa ma oa ba h0 r0 t0 c0 k0 x0 la) : G g (muL nm) E A (100 + 8 * t) (4000 + 64 * t) Q [(xx, .inr (6, [.ref ka, .int (nI (nk)), .ref sa, .long (tr), .ref ma, .int (nI (ml)), .ref oa, .int (nI (on)), .ref ba, .ref h0, .ref c0])), (mm, .inr (7, [.int (cd), .int (nI (nk)), .ref oc, .ref nx, .ref ia, .ref ms, .int (nI (ml)), .int (nI (on)), .ref ot, .long (tr), .ref my, .ref co, .ref bd, .ref bk, .ref oh, .ref rd, .ref mk, .ref rw, .ref ss])), (oc, aI E 272 (foc)), (nx, aI E 17 (fnx)), (ia, aJ E 17 (fis)), (ms, aI E 300 (msg)), (ot, aI E 16 (fot)), (my, aZ E 1105 (fmy)), (co, aJ E 65 (fco)), (bd, aI E 65 (fbd)), (bk, aI E 16 (fbk)), (oh, aI E 16 (foh)), (rd, aI E 176 (frd)), (mk, aI E 16 (fmk)), (rw, aI E 320 (frw)), (ss, aI E 256 (TB)), (ka, aK E 16 (kr)), (sa, aS E 64 (sr)), (ma, aI E 300 (msg)), (oa, aI E 16 (ov)), (ba, aI E 16 (bl)), (h0, .inr (2, [.ref r0, .ref t0])), (r0, aI E 176 (f)), (t0, aI E 16 (tn)), (c0, .inr (3, [.ref h0, .ref k0, .ref x0, .int (fi)])), (k0, aI E 16 (sk)), (x0, aI E 16 (res)), (la, aJ E 1 (fl))] L F 549 [(0, .ref b), (1, .ref xx), (2, .ref mm), (3, .ref la), (4, .int (nI (5 * t)))] [] := by
  obtain ⟨hnk, hml, hon, hmsg, hot, hPS, hMK, hMS, hSO⟩ := I
  refine g_aload_n C dL_law_549 rfl 1 rfl ?_
  refine g_aload_n C dL_law_550 rfl 0 rfl ?_
  refine g_iload C dL_law_551 4 rfl ?_
  refine g_iconst (v := nI (1)) C dL_law_553 (by decide) ?_
  refine g_iadd C dL_law_554 ?_
  refine g_asi (nI_add _ _) ?_
  refine g_sld C hS (by omega) (by omega) dL_law_555 ?_
  refine g_asi (show (xs ((5 * t) + 1)) = (y1) from hy1) ?_
  refine g_callV (v := muX4_encipher) (cx := [(xx, .inr (6, [.ref ka, .int (nI (nk)), .ref sa, .long (tr), .ref ma, .int (nI (ml)), .ref oa, .int (nI (on)), .ref ba, .ref h0, .ref c0])), (ka, aK E 16 (kr)), (ma, aI E 300 (msg)), (oa, aI E 16 (ov)), (ba, aI E 16 (bl)), (h0, .inr (2, [.ref r0, .ref t0])), (r0, aI E 176 (f)), (t0, aI E 16 (tn))]) C (k_X4_encipher (gl g) E xx ka sa ma oa ba h0 c0 nk ml on tr kr sr ko kn kc sc sb sl r0 t0 f tn bl msg ov y1 L F hnk hml hPS) [0, 16, 18, 19, 20, 21, 22, 23] rfl (by decide) 0 rfl rfl gi_L_75 hd_X4_encipher ⟨Nat.le_of_ble_eq_true rfl, Nat.le_of_ble_eq_true rfl⟩ rfl rfl (Nat.le_of_ble_eq_true rfl) ⟨by show 100 + 8 * t + 0 ≤ 603072; omega, by show 4000 + 64 * t + 0 ≤ 7190633; omega⟩ dL_law_556 (fun r9 cx9 L9 F9 hp9 hf9 hN9 => ?_)
  obtain ⟨r1, ml1, on1, ov1, f1, tn1, bl1, rfl, rfl, rfl, rfl, he1⟩ := hp9
  show G g (muL nm) E A (100 + 8 * t) (4000 + 64 * t) Q [(xx, .inr (6, [.ref ka, .int (nI (nk)), .ref sa, .long (tr), .ref ma, .int (nI (ml1)), .ref oa, .int (nI (on1)), .ref ba, .ref h0, .ref c0])), (mm, .inr (7, [.int (cd), .int (nI (nk)), .ref oc, .ref nx, .ref ia, .ref ms, .int (nI (ml)), .int (nI (on)), .ref ot, .long (tr), .ref my, .ref co, .ref bd, .ref bk, .ref oh, .ref rd, .ref mk, .ref rw, .ref ss])), (oc, aI E 272 (foc)), (nx, aI E 17 (fnx)), (ia, aJ E 17 (fis)), (ms, aI E 300 (msg)), (ot, aI E 16 (fot)), (my, aZ E 1105 (fmy)), (co, aJ E 65 (fco)), (bd, aI E 65 (fbd)), (bk, aI E 16 (fbk)), (oh, aI E 16 (foh)), (rd, aI E 176 (frd)), (mk, aI E 16 (fmk)), (rw, aI E 320 (frw)), (ss, aI E 256 (TB)), (ka, aK E 16 (kr)), (sa, aS E 64 (sr)), (ma, aI E 300 (msg)), (oa, aI E 16 (ov1)), (ba, aI E 16 (bl1)), (h0, .inr (2, [.ref r0, .ref t0])), (r0, aI E 176 (f1)), (t0, aI E 16 (tn1)), (c0, .inr (3, [.ref h0, .ref k0, .ref x0, .int (fi)])), (k0, aI E 16 (sk)), (x0, aI E 16 (res)), (la, aJ E 1 (fl))] L F 559 [(0, .ref b), (1, .ref xx), (2, .ref mm), (3, .ref la), (4, .int (nI (5 * t)))] [.int (r1)]
  refine g_aload_n C dL_law_559 rfl 2 rfl ?_
  refine g_aload_n C dL_law_560 rfl 0 rfl ?_
  refine g_iload C dL_law_561 4 rfl ?_
  refine g_iconst (v := nI (1)) C dL_law_563 (by decide) ?_
  refine g_iadd C dL_law_564 ?_
  refine g_asi (nI_add _ _) ?_
  refine g_sld C hS (by omega) (by omega) dL_law_565 ?_
  refine g_asi (show (xs ((5 * t) + 1)) = (y1) from hy1) ?_
  refine g_callV (v := muX5_encipher) (cx := [(mm, .inr (7, [.int (cd), .int (nI (nk)), .ref oc, .ref nx, .ref ia, .ref ms, .int (nI (ml)), .int (nI (on)), .ref ot, .long (tr), .ref my, .ref co, .ref bd, .ref bk, .ref oh, .ref rd, .ref mk, .ref rw, .ref ss])), (oc, aI E 272 (foc)), (rd, aI E 176 (frd)), (ss, aI E 256 (TB)), (bk, aI E 16 (fbk)), (oh, aI E 16 (foh)), (ms, aI E 300 (msg)), (ot, aI E 16 (fot))]) C (k_X5_encipher (gl g) E mm oc nx ia ms ot my co bd bk oh rd mk rw ss cd nk ml on tr foc fnx frd fbk foh msg fot ov fis ko kn kc y1 L F hnk hMK hmsg hml hon hot) [1, 2, 12, 15, 10, 11, 5, 6] rfl (by decide) 1 rfl rfl gi_L_78 hd_X5_encipher ⟨Nat.le_of_ble_eq_true rfl, Nat.le_of_ble_eq_true rfl⟩ rfl rfl (Nat.le_of_ble_eq_true rfl) ⟨by show 100 + 8 * t + 0 ≤ 603072; omega, by show 4000 + 64 * t + 0 ≤ 7190633; omega⟩ dL_law_566 (fun r9 cx9 L9 F9 hp9 hf9 hN9 => ?_)
  obtain ⟨ml2, on2, frd1, fbk1, foh1, fot1, rfl, rfl, rfl, rfl, hm2, hn2, hf2⟩ := hp9
  show G g (muL nm) E A (100 + 8 * t) (4000 + 64 * t) Q [(xx, .inr (6, [.ref ka, .int (nI (nk)), .ref sa, .long (tr), .ref ma, .int (nI (ml1)), .ref oa, .int (nI (on1)), .ref ba, .ref h0, .ref c0])), (mm, .inr (7, [.int (nI 0), .int (nI (nk)), .ref oc, .ref nx, .ref ia, .ref ms, .int (nI (ml2)), .int (nI (on2)), .ref ot, .long (tr), .ref my, .ref co, .ref bd, .ref bk, .ref oh, .ref rd, .ref mk, .ref rw, .ref ss])), (oc, aI E 272 (foc)), (nx, aI E 17 (fnx)), (ia, aJ E 17 (fis)), (ms, aI E 300 (msg)), (ot, aI E 16 (fot1)), (my, aZ E 1105 (fmy)), (co, aJ E 65 (fco)), (bd, aI E 65 (fbd)), (bk, aI E 16 (fbk1)), (oh, aI E 16 (foh1)), (rd, aI E 176 (frd1)), (mk, aI E 16 (fmk)), (rw, aI E 320 (frw)), (ss, aI E 256 (TB)), (ka, aK E 16 (kr)), (sa, aS E 64 (sr)), (ma, aI E 300 (msg)), (oa, aI E 16 (ov1)), (ba, aI E 16 (bl1)), (h0, .inr (2, [.ref r0, .ref t0])), (r0, aI E 176 (f1)), (t0, aI E 16 (tn1)), (c0, .inr (3, [.ref h0, .ref k0, .ref x0, .int (fi)])), (k0, aI E 16 (sk)), (x0, aI E 16 (res)), (la, aJ E 1 (fl))] L F 569 [(0, .ref b), (1, .ref xx), (2, .ref mm), (3, .ref la), (4, .int (nI (5 * t)))] [.int ((ecS nk ko ml msg on ov y1).1), .int (r1)]
  refine g_icmp_eq (tgt := 639) C dL_law_569 (by decide) (fun c569 => ?_) (fun c569 => ?_)
  · skip
    have hc1 := ec_ok (nk := nk) (ko := ko) (msg := msg) (ov := ov) y1 hml hon
    obtain rfl : ml1 = ml2 := by rw [hm2, ← he1]
    obtain rfl : on1 = on2 := by rw [hn2, ← he1]
    rw [← he1] at hc1 hf2
    refine g_cells (ce' := 100 + 8 * t + 8) (sl' := 4000 + 64 * t + 64) (by omega) (by omega) ?_
    exact jn nk ml1 on1 tr kr sr ko kn kc sc sb sl msg ov1 bl1 f1 tn1 sk res fi (nI 0) foc fnx frd1 fbk1 foh1 fmk frw fot1 fmy fbd fis fco fl L F ⟨hnk, hc1.1, hc1.2, hmsg, hf2, hPS, hMK, hMS, hSO⟩
  · skip
    exact absurd (congrArg Prod.fst he1) c569
set_option maxHeartbeats 4000000 in
set_option maxRecDepth 100000 in
theorem law_c11 {g : Gm} {E : Ev} {A : Nat → Prop} {Q : State → Prop} {nm : String} {b N t : Nat} {xs : Nat → Int32} {xx mm oc nx ia ms ot my co bd bk oh rd mk rw ss ka sa ma oa ba h0 r0 t0 c0 k0 x0 la : Nat} (C : Cx g (muL nm) E A) (T : TT A (gs g) (gs g).heap) (hl : (gl g).stackTraces = false) (hS : SC g A b N xs) (hN : N ≤ 2560) (ht : 5 * t + 5 ≤ N) (y1 y2 y3 y4 : Int32) (hy1 : xs (5 * t + 1) = y1) (hy2 : xs (5 * t + 2) = y2) (hy3 : xs (5 * t + 3) = y3) (hy4 : xs (5 * t + 4) = y4) (nk ml on : Nat) (tr : Int64) (kr sr : Nat → Option Nat) (ko : Nat → Nat → Int32) (kn : Nat → Nat) (kc sc : Nat → Int64) (sb : Nat → Nat) (sl msg ov bl f tn sk res : Nat → Int32) (fi cd : Int32) (foc fnx frd fbk foh fmk frw fot fmy fbd : Nat → Int32) (fis fco fl : Nat → Int64) (L : List Nat) (F : Nat → va_E) (I : LI E L F kr sr nk ml on ko kn kc sc sb sl msg ov fot foc fnx fbd fmy fis fco) (jn : JN g E A Q nm b t xx mm oc nx ia ms ot my co bd bk oh rd mk rw ss ka sa ma oa ba h0 r0 t0 c0 k0 x0 la) : G g (muL nm) E A (100 + 8 * t) (4000 + 64 * t) Q [(xx, .inr (6, [.ref ka, .int (nI (nk)), .ref sa, .long (tr), .ref ma, .int (nI (ml)), .ref oa, .int (nI (on)), .ref ba, .ref h0, .ref c0])), (mm, .inr (7, [.int (cd), .int (nI (nk)), .ref oc, .ref nx, .ref ia, .ref ms, .int (nI (ml)), .int (nI (on)), .ref ot, .long (tr), .ref my, .ref co, .ref bd, .ref bk, .ref oh, .ref rd, .ref mk, .ref rw, .ref ss])), (oc, aI E 272 (foc)), (nx, aI E 17 (fnx)), (ia, aJ E 17 (fis)), (ms, aI E 300 (msg)), (ot, aI E 16 (fot)), (my, aZ E 1105 (fmy)), (co, aJ E 65 (fco)), (bd, aI E 65 (fbd)), (bk, aI E 16 (fbk)), (oh, aI E 16 (foh)), (rd, aI E 176 (frd)), (mk, aI E 16 (fmk)), (rw, aI E 320 (frw)), (ss, aI E 256 (TB)), (ka, aK E 16 (kr)), (sa, aS E 64 (sr)), (ma, aI E 300 (msg)), (oa, aI E 16 (ov)), (ba, aI E 16 (bl)), (h0, .inr (2, [.ref r0, .ref t0])), (r0, aI E 176 (f)), (t0, aI E 16 (tn)), (c0, .inr (3, [.ref h0, .ref k0, .ref x0, .int (fi)])), (k0, aI E 16 (sk)), (x0, aI E 16 (res)), (la, aJ E 1 (fl))] L F 574 [(0, .ref b), (1, .ref xx), (2, .ref mm), (3, .ref la), (4, .int (nI (5 * t)))] [] := by
  obtain ⟨hnk, hml, hon, hmsg, hot, hPS, hMK, hMS, hSO⟩ := I
  refine g_aload_n C dL_law_574 rfl 1 rfl ?_
  refine g_aload_n C dL_law_575 rfl 0 rfl ?_
  refine g_iload C dL_law_576 4 rfl ?_
  refine g_iconst (v := nI (1)) C dL_law_578 (by decide) ?_
  refine g_iadd C dL_law_579 ?_
  refine g_asi (nI_add _ _) ?_
  refine g_sld C hS (by omega) (by omega) dL_law_580 ?_
  refine g_asi (show (xs ((5 * t) + 1)) = (y1) from hy1) ?_
  refine g_aload_n C dL_law_581 rfl 0 rfl ?_
  refine g_iload C dL_law_582 4 rfl ?_
  refine g_iconst (v := nI (2)) C dL_law_584 (by decide) ?_
  refine g_iadd C dL_law_585 ?_
  refine g_asi (nI_add _ _) ?_
  refine g_sld C hS (by omega) (by omega) dL_law_586 ?_
  refine g_asi (show (xs ((5 * t) + 2)) = (y2) from hy2) ?_
  refine g_aload_n C dL_law_587 rfl 0 rfl ?_
  refine g_iload C dL_law_588 4 rfl ?_
  refine g_iconst (v := nI (3)) C dL_law_590 (by decide) ?_
  refine g_iadd C dL_law_591 ?_
  refine g_asi (nI_add _ _) ?_
  refine g_sld C hS (by omega) (by omega) dL_law_592 ?_
  refine g_asi (show (xs ((5 * t) + 3)) = (y3) from hy3) ?_
  refine g_if_eq (tgt := 600) C dL_law_593 (by decide) (fun c593 => ?_) (fun c593 => ?_)
  · skip
    refine g_iconst (v := nI (0)) C dL_law_600 (by decide) ?_
    refine g_asi (show (nI (0)) = (b2 false) from rfl) ?_
    refine g_callV (v := muX4_may) (cx := [(xx, .inr (6, [.ref ka, .int (nI (nk)), .ref sa, .long (tr), .ref ma, .int (nI (ml)), .ref oa, .int (nI (on)), .ref ba, .ref h0, .ref c0])), (ka, aK E 16 (kr)), (sa, aS E 64 (sr))]) C (k_X4_may (gl g) E xx ka sa ma oa ba h0 c0 nk ml on tr kr sr ko kn kc sc sb sl y1 y2 false L F hnk hPS) [0, 16, 17] rfl (by decide) 0 rfl rfl gi_L_79 hd_X4_may ⟨Nat.le_of_ble_eq_true rfl, Nat.le_of_ble_eq_true rfl⟩ rfl rfl (Nat.le_of_ble_eq_true rfl) ⟨by show 100 + 8 * t + 0 ≤ 603072; omega, by show 4000 + 64 * t + 0 ≤ 7190633; omega⟩ dL_law_601 (fun r9 cx9 L9 F9 hp9 hf9 hN9 => ?_)
    obtain ⟨r1, F1, sl1, rfl, rfl, rfl, rfl, hps1, he1⟩ := hp9
    show G g (muL nm) E A (100 + 8 * t) (4000 + 64 * t) Q [(xx, .inr (6, [.ref ka, .int (nI (nk)), .ref sa, .long (tr), .ref ma, .int (nI (ml)), .ref oa, .int (nI (on)), .ref ba, .ref h0, .ref c0])), (mm, .inr (7, [.int (cd), .int (nI (nk)), .ref oc, .ref nx, .ref ia, .ref ms, .int (nI (ml)), .int (nI (on)), .ref ot, .long (tr), .ref my, .ref co, .ref bd, .ref bk, .ref oh, .ref rd, .ref mk, .ref rw, .ref ss])), (oc, aI E 272 (foc)), (nx, aI E 17 (fnx)), (ia, aJ E 17 (fis)), (ms, aI E 300 (msg)), (ot, aI E 16 (fot)), (my, aZ E 1105 (fmy)), (co, aJ E 65 (fco)), (bd, aI E 65 (fbd)), (bk, aI E 16 (fbk)), (oh, aI E 16 (foh)), (rd, aI E 176 (frd)), (mk, aI E 16 (fmk)), (rw, aI E 320 (frw)), (ss, aI E 256 (TB)), (ka, aK E 16 (kr)), (sa, aS E 64 (sr)), (ma, aI E 300 (msg)), (oa, aI E 16 (ov)), (ba, aI E 16 (bl)), (h0, .inr (2, [.ref r0, .ref t0])), (r0, aI E 176 (f)), (t0, aI E 16 (tn)), (c0, .inr (3, [.ref h0, .ref k0, .ref x0, .int (fi)])), (k0, aI E 16 (sk)), (x0, aI E 16 (res)), (la, aJ E 1 (fl))] L F1 604 [(0, .ref b), (1, .ref xx), (2, .ref mm), (3, .ref la), (4, .int (nI (5 * t)))] [.int (r1)]
    refine g_aload_n C dL_law_604 rfl 2 rfl ?_
    refine g_aload_n C dL_law_605 rfl 0 rfl ?_
    refine g_iload C dL_law_606 4 rfl ?_
    refine g_iconst (v := nI (1)) C dL_law_608 (by decide) ?_
    refine g_iadd C dL_law_609 ?_
    refine g_asi (nI_add _ _) ?_
    refine g_sld C hS (by omega) (by omega) dL_law_610 ?_
    refine g_asi (show (xs ((5 * t) + 1)) = (y1) from hy1) ?_
    refine g_aload_n C dL_law_611 rfl 0 rfl ?_
    refine g_iload C dL_law_612 4 rfl ?_
    refine g_iconst (v := nI (2)) C dL_law_614 (by decide) ?_
    refine g_iadd C dL_law_615 ?_
    refine g_asi (nI_add _ _) ?_
    refine g_sld C hS (by omega) (by omega) dL_law_616 ?_
    refine g_asi (show (xs ((5 * t) + 2)) = (y2) from hy2) ?_
    refine g_aload_n C dL_law_617 rfl 0 rfl ?_
    refine g_iload C dL_law_618 4 rfl ?_
    refine g_iconst (v := nI (3)) C dL_law_620 (by decide) ?_
    refine g_iadd C dL_law_621 ?_
    refine g_asi (nI_add _ _) ?_
    refine g_sld C hS (by omega) (by omega) dL_law_622 ?_
    refine g_asi (show (xs ((5 * t) + 3)) = (y3) from hy3) ?_
    refine g_if_eq (tgt := 630) C dL_law_623 (by decide) (fun c623 => ?_) (fun c623 => ?_)
    · skip
      refine g_iconst (v := nI (0)) C dL_law_630 (by decide) ?_
      refine g_asi (show (nI (0)) = (b2 false) from rfl) ?_
      refine g_callV (v := muX5_may) (cx := [(mm, .inr (7, [.int (cd), .int (nI (nk)), .ref oc, .ref nx, .ref ia, .ref ms, .int (nI (ml)), .int (nI (on)), .ref ot, .long (tr), .ref my, .ref co, .ref bd, .ref bk, .ref oh, .ref rd, .ref mk, .ref rw, .ref ss])), (my, aZ E 1105 (fmy))]) C (k_X5_may (gl g) E mm oc nx ia ms ot my co bd bk oh rd mk rw ss cd nk ml on tr fmy fbd fco sc sb sl y1 y2 false L F1 hnk hMS hSO) [1, 7] rfl (by decide) 1 rfl rfl gi_L_83 hd_X5_may ⟨Nat.le_of_ble_eq_true rfl, Nat.le_of_ble_eq_true rfl⟩ rfl rfl (Nat.le_of_ble_eq_true rfl) ⟨by show 100 + 8 * t + 0 ≤ 603072; omega, by show 4000 + 64 * t + 0 ≤ 7190633; omega⟩ dL_law_631 (fun r9 cx9 L9 F9 hp9 hf9 hN9 => ?_)
      obtain ⟨fmy1, rfl, rfl, rfl, rfl, hm2⟩ := hp9
      show G g (muL nm) E A (100 + 8 * t) (4000 + 64 * t) Q [(xx, .inr (6, [.ref ka, .int (nI (nk)), .ref sa, .long (tr), .ref ma, .int (nI (ml)), .ref oa, .int (nI (on)), .ref ba, .ref h0, .ref c0])), (mm, .inr (7, [.int (nI 0), .int (nI (nk)), .ref oc, .ref nx, .ref ia, .ref ms, .int (nI (ml)), .int (nI (on)), .ref ot, .long (tr), .ref my, .ref co, .ref bd, .ref bk, .ref oh, .ref rd, .ref mk, .ref rw, .ref ss])), (oc, aI E 272 (foc)), (nx, aI E 17 (fnx)), (ia, aJ E 17 (fis)), (ms, aI E 300 (msg)), (ot, aI E 16 (fot)), (my, aZ E 1105 (fmy1)), (co, aJ E 65 (fco)), (bd, aI E 65 (fbd)), (bk, aI E 16 (fbk)), (oh, aI E 16 (foh)), (rd, aI E 176 (frd)), (mk, aI E 16 (fmk)), (rw, aI E 320 (frw)), (ss, aI E 256 (TB)), (ka, aK E 16 (kr)), (sa, aS E 64 (sr)), (ma, aI E 300 (msg)), (oa, aI E 16 (ov)), (ba, aI E 16 (bl)), (h0, .inr (2, [.ref r0, .ref t0])), (r0, aI E 176 (f)), (t0, aI E 16 (tn)), (c0, .inr (3, [.ref h0, .ref k0, .ref x0, .int (fi)])), (k0, aI E 16 (sk)), (x0, aI E 16 (res)), (la, aJ E 1 (fl))] L F1 634 [(0, .ref b), (1, .ref xx), (2, .ref mm), (3, .ref la), (4, .int (nI (5 * t)))] [.int ((myS nk sl y1 y2 false).1), .int (r1)]
      refine g_icmp_eq (tgt := 639) C dL_law_634 (by decide) (fun c634 => ?_) (fun c634 => ?_)
      · skip
        have hc1 := my_ok hnk y1 y2 false hSO
        rw [← he1] at hc1 hm2
        refine g_cells (ce' := 100 + 8 * t + 8) (sl' := 4000 + 64 * t + 64) (by omega) (by omega) ?_
        exact jn nk ml on tr kr sr ko kn kc sc sb sl1 msg ov bl f tn sk res fi (nI 0) foc fnx frd fbk foh fmk frw fot fmy1 fbd fis fco fl L F1 ⟨hnk, hml, hon, hmsg, hot, hps1, hMK, hm2, hc1⟩
      · skip
        exact absurd (congrArg Prod.fst he1) c634
    · skip
      exact absurd c593 c623
  · skip
    refine g_iconst (v := nI (1)) C dL_law_596 (by decide) ?_
    refine g_asi (show (nI (1)) = (b2 true) from rfl) ?_
    refine g_goto (tgt := 601) C dL_law_597 (by decide) ?_
    refine g_callV (v := muX4_may) (cx := [(xx, .inr (6, [.ref ka, .int (nI (nk)), .ref sa, .long (tr), .ref ma, .int (nI (ml)), .ref oa, .int (nI (on)), .ref ba, .ref h0, .ref c0])), (ka, aK E 16 (kr)), (sa, aS E 64 (sr))]) C (k_X4_may (gl g) E xx ka sa ma oa ba h0 c0 nk ml on tr kr sr ko kn kc sc sb sl y1 y2 true L F hnk hPS) [0, 16, 17] rfl (by decide) 0 rfl rfl gi_L_79 hd_X4_may ⟨Nat.le_of_ble_eq_true rfl, Nat.le_of_ble_eq_true rfl⟩ rfl rfl (Nat.le_of_ble_eq_true rfl) ⟨by show 100 + 8 * t + 0 ≤ 603072; omega, by show 4000 + 64 * t + 0 ≤ 7190633; omega⟩ dL_law_601 (fun r9 cx9 L9 F9 hp9 hf9 hN9 => ?_)
    obtain ⟨r1, F1, sl1, rfl, rfl, rfl, rfl, hps1, he1⟩ := hp9
    show G g (muL nm) E A (100 + 8 * t) (4000 + 64 * t) Q [(xx, .inr (6, [.ref ka, .int (nI (nk)), .ref sa, .long (tr), .ref ma, .int (nI (ml)), .ref oa, .int (nI (on)), .ref ba, .ref h0, .ref c0])), (mm, .inr (7, [.int (cd), .int (nI (nk)), .ref oc, .ref nx, .ref ia, .ref ms, .int (nI (ml)), .int (nI (on)), .ref ot, .long (tr), .ref my, .ref co, .ref bd, .ref bk, .ref oh, .ref rd, .ref mk, .ref rw, .ref ss])), (oc, aI E 272 (foc)), (nx, aI E 17 (fnx)), (ia, aJ E 17 (fis)), (ms, aI E 300 (msg)), (ot, aI E 16 (fot)), (my, aZ E 1105 (fmy)), (co, aJ E 65 (fco)), (bd, aI E 65 (fbd)), (bk, aI E 16 (fbk)), (oh, aI E 16 (foh)), (rd, aI E 176 (frd)), (mk, aI E 16 (fmk)), (rw, aI E 320 (frw)), (ss, aI E 256 (TB)), (ka, aK E 16 (kr)), (sa, aS E 64 (sr)), (ma, aI E 300 (msg)), (oa, aI E 16 (ov)), (ba, aI E 16 (bl)), (h0, .inr (2, [.ref r0, .ref t0])), (r0, aI E 176 (f)), (t0, aI E 16 (tn)), (c0, .inr (3, [.ref h0, .ref k0, .ref x0, .int (fi)])), (k0, aI E 16 (sk)), (x0, aI E 16 (res)), (la, aJ E 1 (fl))] L F1 604 [(0, .ref b), (1, .ref xx), (2, .ref mm), (3, .ref la), (4, .int (nI (5 * t)))] [.int (r1)]
    refine g_aload_n C dL_law_604 rfl 2 rfl ?_
    refine g_aload_n C dL_law_605 rfl 0 rfl ?_
    refine g_iload C dL_law_606 4 rfl ?_
    refine g_iconst (v := nI (1)) C dL_law_608 (by decide) ?_
    refine g_iadd C dL_law_609 ?_
    refine g_asi (nI_add _ _) ?_
    refine g_sld C hS (by omega) (by omega) dL_law_610 ?_
    refine g_asi (show (xs ((5 * t) + 1)) = (y1) from hy1) ?_
    refine g_aload_n C dL_law_611 rfl 0 rfl ?_
    refine g_iload C dL_law_612 4 rfl ?_
    refine g_iconst (v := nI (2)) C dL_law_614 (by decide) ?_
    refine g_iadd C dL_law_615 ?_
    refine g_asi (nI_add _ _) ?_
    refine g_sld C hS (by omega) (by omega) dL_law_616 ?_
    refine g_asi (show (xs ((5 * t) + 2)) = (y2) from hy2) ?_
    refine g_aload_n C dL_law_617 rfl 0 rfl ?_
    refine g_iload C dL_law_618 4 rfl ?_
    refine g_iconst (v := nI (3)) C dL_law_620 (by decide) ?_
    refine g_iadd C dL_law_621 ?_
    refine g_asi (nI_add _ _) ?_
    refine g_sld C hS (by omega) (by omega) dL_law_622 ?_
    refine g_asi (show (xs ((5 * t) + 3)) = (y3) from hy3) ?_
    refine g_if_eq (tgt := 630) C dL_law_623 (by decide) (fun c623 => ?_) (fun c623 => ?_)
    · skip
      exact absurd c623 c593
    · skip
      refine g_iconst (v := nI (1)) C dL_law_626 (by decide) ?_
      refine g_asi (show (nI (1)) = (b2 true) from rfl) ?_
      refine g_goto (tgt := 631) C dL_law_627 (by decide) ?_
      refine g_callV (v := muX5_may) (cx := [(mm, .inr (7, [.int (cd), .int (nI (nk)), .ref oc, .ref nx, .ref ia, .ref ms, .int (nI (ml)), .int (nI (on)), .ref ot, .long (tr), .ref my, .ref co, .ref bd, .ref bk, .ref oh, .ref rd, .ref mk, .ref rw, .ref ss])), (my, aZ E 1105 (fmy))]) C (k_X5_may (gl g) E mm oc nx ia ms ot my co bd bk oh rd mk rw ss cd nk ml on tr fmy fbd fco sc sb sl y1 y2 true L F1 hnk hMS hSO) [1, 7] rfl (by decide) 1 rfl rfl gi_L_83 hd_X5_may ⟨Nat.le_of_ble_eq_true rfl, Nat.le_of_ble_eq_true rfl⟩ rfl rfl (Nat.le_of_ble_eq_true rfl) ⟨by show 100 + 8 * t + 0 ≤ 603072; omega, by show 4000 + 64 * t + 0 ≤ 7190633; omega⟩ dL_law_631 (fun r9 cx9 L9 F9 hp9 hf9 hN9 => ?_)
      obtain ⟨fmy1, rfl, rfl, rfl, rfl, hm2⟩ := hp9
      show G g (muL nm) E A (100 + 8 * t) (4000 + 64 * t) Q [(xx, .inr (6, [.ref ka, .int (nI (nk)), .ref sa, .long (tr), .ref ma, .int (nI (ml)), .ref oa, .int (nI (on)), .ref ba, .ref h0, .ref c0])), (mm, .inr (7, [.int (nI 0), .int (nI (nk)), .ref oc, .ref nx, .ref ia, .ref ms, .int (nI (ml)), .int (nI (on)), .ref ot, .long (tr), .ref my, .ref co, .ref bd, .ref bk, .ref oh, .ref rd, .ref mk, .ref rw, .ref ss])), (oc, aI E 272 (foc)), (nx, aI E 17 (fnx)), (ia, aJ E 17 (fis)), (ms, aI E 300 (msg)), (ot, aI E 16 (fot)), (my, aZ E 1105 (fmy1)), (co, aJ E 65 (fco)), (bd, aI E 65 (fbd)), (bk, aI E 16 (fbk)), (oh, aI E 16 (foh)), (rd, aI E 176 (frd)), (mk, aI E 16 (fmk)), (rw, aI E 320 (frw)), (ss, aI E 256 (TB)), (ka, aK E 16 (kr)), (sa, aS E 64 (sr)), (ma, aI E 300 (msg)), (oa, aI E 16 (ov)), (ba, aI E 16 (bl)), (h0, .inr (2, [.ref r0, .ref t0])), (r0, aI E 176 (f)), (t0, aI E 16 (tn)), (c0, .inr (3, [.ref h0, .ref k0, .ref x0, .int (fi)])), (k0, aI E 16 (sk)), (x0, aI E 16 (res)), (la, aJ E 1 (fl))] L F1 634 [(0, .ref b), (1, .ref xx), (2, .ref mm), (3, .ref la), (4, .int (nI (5 * t)))] [.int ((myS nk sl y1 y2 true).1), .int (r1)]
      refine g_icmp_eq (tgt := 639) C dL_law_634 (by decide) (fun c634 => ?_) (fun c634 => ?_)
      · skip
        have hc1 := my_ok hnk y1 y2 true hSO
        rw [← he1] at hc1 hm2
        refine g_cells (ce' := 100 + 8 * t + 8) (sl' := 4000 + 64 * t + 64) (by omega) (by omega) ?_
        exact jn nk ml on tr kr sr ko kn kc sc sb sl1 msg ov bl f tn sk res fi (nI 0) foc fnx frd fbk foh fmk frw fot fmy1 fbd fis fco fl L F1 ⟨hnk, hml, hon, hmsg, hot, hps1, hMK, hm2, hc1⟩
      · skip
        exact absurd (congrArg Prod.fst he1) c634
set_option maxHeartbeats 4000000 in
set_option maxRecDepth 100000 in
theorem law_c4 {g : Gm} {E : Ev} {A : Nat → Prop} {Q : State → Prop} {nm : String} {b N t : Nat} {xs : Nat → Int32} {xx mm oc nx ia ms ot my co bd bk oh rd mk rw ss ka sa ma oa ba h0 r0 t0 c0 k0 x0 la : Nat} (C : Cx g (muL nm) E A) (T : TT A (gs g) (gs g).heap) (hl : (gl g).stackTraces = false) (hS : SC g A b N xs) (hN : N ≤ 2560) (ht : 5 * t + 5 ≤ N) (y1 y2 y3 y4 : Int32) (hy1 : xs (5 * t + 1) = y1) (hy2 : xs (5 * t + 2) = y2) (hy3 : xs (5 * t + 3) = y3) (hy4 : xs (5 * t + 4) = y4) (nk ml on : Nat) (tr : Int64) (kr sr : Nat → Option Nat) (ko : Nat → Nat → Int32) (kn : Nat → Nat) (kc sc : Nat → Int64) (sb : Nat → Nat) (sl msg ov bl f tn sk res : Nat → Int32) (fi cd : Int32) (foc fnx frd fbk foh fmk frw fot fmy fbd : Nat → Int32) (fis fco fl : Nat → Int64) (L : List Nat) (F : Nat → va_E) (I : LI E L F kr sr nk ml on ko kn kc sc sb sl msg ov fot foc fnx fbd fmy fis fco) (jn : JN g E A Q nm b t xx mm oc nx ia ms ot my co bd bk oh rd mk rw ss ka sa ma oa ba h0 r0 t0 c0 k0 x0 la) : G g (muL nm) E A (100 + 8 * t) (4000 + 64 * t) Q [(xx, .inr (6, [.ref ka, .int (nI (nk)), .ref sa, .long (tr), .ref ma, .int (nI (ml)), .ref oa, .int (nI (on)), .ref ba, .ref h0, .ref c0])), (mm, .inr (7, [.int (cd), .int (nI (nk)), .ref oc, .ref nx, .ref ia, .ref ms, .int (nI (ml)), .int (nI (on)), .ref ot, .long (tr), .ref my, .ref co, .ref bd, .ref bk, .ref oh, .ref rd, .ref mk, .ref rw, .ref ss])), (oc, aI E 272 (foc)), (nx, aI E 17 (fnx)), (ia, aJ E 17 (fis)), (ms, aI E 300 (msg)), (ot, aI E 16 (fot)), (my, aZ E 1105 (fmy)), (co, aJ E 65 (fco)), (bd, aI E 65 (fbd)), (bk, aI E 16 (fbk)), (oh, aI E 16 (foh)), (rd, aI E 176 (frd)), (mk, aI E 16 (fmk)), (rw, aI E 320 (frw)), (ss, aI E 256 (TB)), (ka, aK E 16 (kr)), (sa, aS E 64 (sr)), (ma, aI E 300 (msg)), (oa, aI E 16 (ov)), (ba, aI E 16 (bl)), (h0, .inr (2, [.ref r0, .ref t0])), (r0, aI E 176 (f)), (t0, aI E 16 (tn)), (c0, .inr (3, [.ref h0, .ref k0, .ref x0, .int (fi)])), (k0, aI E 16 (sk)), (x0, aI E 16 (res)), (la, aJ E 1 (fl))] L F 212 [(0, .ref b), (1, .ref xx), (2, .ref mm), (3, .ref la), (4, .int (nI (5 * t)))] [] := by
  obtain ⟨hnk, hml, hon, hmsg, hot, hPS, hMK, hMS, hSO⟩ := I
  refine g_aload_n C dL_law_212 rfl 1 rfl ?_
  refine g_aload_n C dL_law_213 rfl 0 rfl ?_
  refine g_iload C dL_law_214 4 rfl ?_
  refine g_iconst (v := nI (1)) C dL_law_216 (by decide) ?_
  refine g_iadd C dL_law_217 ?_
  refine g_asi (nI_add _ _) ?_
  refine g_sld C hS (by omega) (by omega) dL_law_218 ?_
  refine g_asi (show (xs ((5 * t) + 1)) = (y1) from hy1) ?_
  refine g_aload_n C dL_law_219 rfl 3 rfl ?_
  refine g_callSW (v := muL_out) (cx := [(xx, .inr (6, [.ref ka, .int (nI (nk)), .ref sa, .long (tr), .ref ma, .int (nI (ml)), .ref oa, .int (nI (on)), .ref ba, .ref h0, .ref c0])), (oa, aI E 16 (ov)), (la, aJ E 1 (fl))]) C T (k_L_out (gl g) hl E xx ka sa ma oa ba h0 c0 nk ml on tr la ov fl y1 L F hon) [0, 19, 27] rfl (by decide) gi_L_39 hd_L_out ⟨Nat.le_of_ble_eq_true rfl, Nat.le_of_ble_eq_true rfl⟩ rfl rfl (Nat.le_of_ble_eq_true rfl) ⟨by show 100 + 8 * t + 1 ≤ 603072; omega, by show 4000 + 64 * t + 6 ≤ 7190633; omega⟩ dL_law_220 (fun r9 cx9 L9 F9 hp9 hf9 hN9 => ?_)
  obtain ⟨r5, fl1, rfl, rfl, rfl, rfl, ho1⟩ := hp9
  show G g (muL nm) E A (100 + 8 * t + 1) (4000 + 64 * t + 6) Q [(xx, .inr (6, [.ref ka, .int (nI (nk)), .ref sa, .long (tr), .ref ma, .int (nI (ml)), .ref oa, .int (nI (on)), .ref ba, .ref h0, .ref c0])), (mm, .inr (7, [.int (cd), .int (nI (nk)), .ref oc, .ref nx, .ref ia, .ref ms, .int (nI (ml)), .int (nI (on)), .ref ot, .long (tr), .ref my, .ref co, .ref bd, .ref bk, .ref oh, .ref rd, .ref mk, .ref rw, .ref ss])), (oc, aI E 272 (foc)), (nx, aI E 17 (fnx)), (ia, aJ E 17 (fis)), (ms, aI E 300 (msg)), (ot, aI E 16 (fot)), (my, aZ E 1105 (fmy)), (co, aJ E 65 (fco)), (bd, aI E 65 (fbd)), (bk, aI E 16 (fbk)), (oh, aI E 16 (foh)), (rd, aI E 176 (frd)), (mk, aI E 16 (fmk)), (rw, aI E 320 (frw)), (ss, aI E 256 (TB)), (ka, aK E 16 (kr)), (sa, aS E 64 (sr)), (ma, aI E 300 (msg)), (oa, aI E 16 (ov)), (ba, aI E 16 (bl)), (h0, .inr (2, [.ref r0, .ref t0])), (r0, aI E 176 (f)), (t0, aI E 16 (tn)), (c0, .inr (3, [.ref h0, .ref k0, .ref x0, .int (fi)])), (k0, aI E 16 (sk)), (x0, aI E 16 (res)), (la, aJ E 1 (fl1))] L F 223 [(0, .ref b), (1, .ref xx), (2, .ref mm), (3, .ref la), (4, .int (nI (5 * t)))] [.int (r5)]
  refine g_istore (lv' := [(5, .int (r5)), (0, .ref b), (1, .ref xx), (2, .ref mm), (3, .ref la), (4, .int (nI (5 * t)))]) C dL_law_223 (Nat.le_of_ble_eq_true rfl) rfl ?_
  refine g_aload_n C dL_law_225 rfl 3 rfl ?_
  refine g_aload_n C dL_law_226 rfl 1 rfl ?_
  refine g_iload C dL_law_227 5 rfl ?_
  refine g_iconst (v := nI (1)) C dL_law_229 (by decide) ?_
  refine g_iadd C dL_law_230 ?_
  refine g_asi (nI_add _ _) ?_
  refine g_sld C hS (by omega) (by omega) dL_law_231 ?_
  refine g_asi (show (xs ((5 * t) + 1)) = (y1) from hy1) ?_
  refine g_callV (v := muX5_out) (cx := [(mm, .inr (7, [.int (cd), .int (nI (nk)), .ref oc, .ref nx, .ref ia, .ref ms, .int (nI (ml)), .int (nI (on)), .ref ot, .long (tr), .ref my, .ref co, .ref bd, .ref bk, .ref oh, .ref rd, .ref mk, .ref rw, .ref ss])), (ot, aI E 16 (fot))]) C (k_X5_out (gl g) E mm oc nx ia ms ot my co bd bk oh rd mk rw ss cd nk ml on tr fot y1 L F hon) [1, 6] rfl (by decide) 1 rfl rfl gi_L_44 hd_X5_out ⟨Nat.le_of_ble_eq_true rfl, Nat.le_of_ble_eq_true rfl⟩ rfl rfl (Nat.le_of_ble_eq_true rfl) ⟨by show 100 + 8 * t + 1 + 0 ≤ 603072; omega, by show 4000 + 64 * t + 6 + 0 ≤ 7190633; omega⟩ dL_law_232 (fun r9 cx9 L9 F9 hp9 hf9 hN9 => ?_)
  obtain ⟨r6, cd1, rfl, rfl, rfl, rfl, ho2⟩ := hp9
  show G g (muL nm) E A (100 + 8 * t + 1) (4000 + 64 * t + 6) Q [(xx, .inr (6, [.ref ka, .int (nI (nk)), .ref sa, .long (tr), .ref ma, .int (nI (ml)), .ref oa, .int (nI (on)), .ref ba, .ref h0, .ref c0])), (mm, .inr (7, [.int (cd1), .int (nI (nk)), .ref oc, .ref nx, .ref ia, .ref ms, .int (nI (ml)), .int (nI (on)), .ref ot, .long (tr), .ref my, .ref co, .ref bd, .ref bk, .ref oh, .ref rd, .ref mk, .ref rw, .ref ss])), (oc, aI E 272 (foc)), (nx, aI E 17 (fnx)), (ia, aJ E 17 (fis)), (ms, aI E 300 (msg)), (ot, aI E 16 (fot)), (my, aZ E 1105 (fmy)), (co, aJ E 65 (fco)), (bd, aI E 65 (fbd)), (bk, aI E 16 (fbk)), (oh, aI E 16 (foh)), (rd, aI E 176 (frd)), (mk, aI E 16 (fmk)), (rw, aI E 320 (frw)), (ss, aI E 256 (TB)), (ka, aK E 16 (kr)), (sa, aS E 64 (sr)), (ma, aI E 300 (msg)), (oa, aI E 16 (ov)), (ba, aI E 16 (bl)), (h0, .inr (2, [.ref r0, .ref t0])), (r0, aI E 176 (f)), (t0, aI E 16 (tn)), (c0, .inr (3, [.ref h0, .ref k0, .ref x0, .int (fi)])), (k0, aI E 16 (sk)), (x0, aI E 16 (res)), (la, aJ E 1 (fl1))] L F 235 [(5, .int (r5)), (0, .ref b), (1, .ref xx), (2, .ref mm), (3, .ref la), (4, .int (nI (5 * t)))] [.int (r6)]
  have hag := out_ok hon hot ho1 ho2
  refine g_istore (lv' := [(6, .int (r6)), (5, .int (r5)), (0, .ref b), (1, .ref xx), (2, .ref mm), (3, .ref la), (4, .int (nI (5 * t)))]) C dL_law_235 (Nat.le_of_ble_eq_true rfl) rfl ?_
  refine g_aload_n C dL_law_237 rfl 4 rfl ?_
  refine g_callV (v := muX5_thrown) (cx := [(mm, .inr (7, [.int (cd1), .int (nI (nk)), .ref oc, .ref nx, .ref ia, .ref ms, .int (nI (ml)), .int (nI (on)), .ref ot, .long (tr), .ref my, .ref co, .ref bd, .ref bk, .ref oh, .ref rd, .ref mk, .ref rw, .ref ss]))]) C (k_X5_thrown (gl g) E mm oc nx ia ms ot my co bd bk oh rd mk rw ss cd1 nk ml on tr L F ) [1] rfl (by decide) 1 rfl rfl gi_L_45 hd_X5_thrown ⟨Nat.le_of_ble_eq_true rfl, Nat.le_of_ble_eq_true rfl⟩ rfl rfl (Nat.le_of_ble_eq_true rfl) ⟨by show 100 + 8 * t + 1 + 0 ≤ 603072; omega, by show 4000 + 64 * t + 6 + 0 ≤ 7190633; omega⟩ dL_law_238 (fun r9 cx9 L9 F9 hp9 hf9 hN9 => ?_)
  obtain ⟨rfl, rfl, rfl, rfl, -⟩ := hp9
  show G g (muL nm) E A (100 + 8 * t + 1) (4000 + 64 * t + 6) Q [(xx, .inr (6, [.ref ka, .int (nI (nk)), .ref sa, .long (tr), .ref ma, .int (nI (ml)), .ref oa, .int (nI (on)), .ref ba, .ref h0, .ref c0])), (mm, .inr (7, [.int (cd1), .int (nI (nk)), .ref oc, .ref nx, .ref ia, .ref ms, .int (nI (ml)), .int (nI (on)), .ref ot, .long (tr), .ref my, .ref co, .ref bd, .ref bk, .ref oh, .ref rd, .ref mk, .ref rw, .ref ss])), (oc, aI E 272 (foc)), (nx, aI E 17 (fnx)), (ia, aJ E 17 (fis)), (ms, aI E 300 (msg)), (ot, aI E 16 (fot)), (my, aZ E 1105 (fmy)), (co, aJ E 65 (fco)), (bd, aI E 65 (fbd)), (bk, aI E 16 (fbk)), (oh, aI E 16 (foh)), (rd, aI E 176 (frd)), (mk, aI E 16 (fmk)), (rw, aI E 320 (frw)), (ss, aI E 256 (TB)), (ka, aK E 16 (kr)), (sa, aS E 64 (sr)), (ma, aI E 300 (msg)), (oa, aI E 16 (ov)), (ba, aI E 16 (bl)), (h0, .inr (2, [.ref r0, .ref t0])), (r0, aI E 176 (f)), (t0, aI E 16 (tn)), (c0, .inr (3, [.ref h0, .ref k0, .ref x0, .int (fi)])), (k0, aI E 16 (sk)), (x0, aI E 16 (res)), (la, aJ E 1 (fl1))] L F 241 [(6, .int (r6)), (5, .int (r5)), (0, .ref b), (1, .ref xx), (2, .ref mm), (3, .ref la), (4, .int (nI (5 * t)))] [.int (cd1)]
  refine g_iload C dL_law_241 1 rfl ?_
  refine g_icmp_eq (tgt := 248) C dL_law_243 (by decide) (fun c243 => ?_) (fun c243 => ?_)
  · skip
    refine g_iload C dL_law_248 1 rfl ?_
    refine g_if_ne (tgt := 265) C dL_law_250 (by decide) (fun c250 => ?_) (fun c250 => ?_)
    · skip
      refine g_goto (tgt := 639) C dL_law_265 (by decide) ?_
      refine g_lv [2, 3, 4, 5, 6] rfl ?_
      refine g_cells (ce' := 100 + 8 * t + 8) (sl' := 4000 + 64 * t + 64) (by omega) (by omega) ?_
      exact jn nk ml on tr kr sr ko kn kc sc sb sl msg ov bl f tn sk res fi cd1 foc fnx frd fbk foh fmk frw fot fmy fbd fis fco fl1 L F ⟨hnk, hml, hon, hmsg, hot, hPS, hMK, hMS, hSO⟩
    · skip
      refine g_aload_n C dL_law_253 rfl 5 rfl ?_
      refine g_iconst (v := nI (0)) C dL_law_254 (by decide) ?_
      refine g_lald C 27 rfl (by omega) (by decide) dL_law_255 ?_
      refine g_iload C dL_law_256 0 rfl ?_
      refine g_i2l (v := (r6).toInt64) C dL_law_258 rfl ?_
      refine g_lcmp C dL_law_259 ?_
      refine g_if_eq (tgt := 265) C dL_law_260 (by decide) (fun c260 => ?_) (fun c260 => ?_)
      · skip
        rw [lg_cmp_eq] at c260
        refine g_goto (tgt := 639) C dL_law_265 (by decide) ?_
        refine g_lv [2, 3, 4, 5, 6] rfl ?_
        refine g_cells (ce' := 100 + 8 * t + 8) (sl' := 4000 + 64 * t + 64) (by omega) (by omega) ?_
        exact jn nk ml on tr kr sr ko kn kc sc sb sl msg ov bl f tn sk res fi cd1 foc fnx frd fbk foh fmk frw fot fmy fbd fis fco fl1 L F ⟨hnk, hml, hon, hmsg, hot, hPS, hMK, hMS, hSO⟩
      · skip
        rw [lg_cmp_eq] at c260
        exact absurd (hag.2 c250) c260
  · skip
    exact absurd (hag.1) c243
