theorem wr_no {nk : Nat} {ko : Nat → Nat → Int32} {kn : Nat → Nat} {kc : Nat → Int64} {ml : Nat} {msg : Nat → Int32} {k w : Int32} {c : Int64} {i q : Nat} (hk : kf nk k = some i) (hw : kf nk w = some q) (h0 : 0 ≤ c) (hl : ml = 24) (h : ¬ wrB (ko q) c msg = true ∨ ¬ kc i < c) : isS nk ko kn kc ml msg k w c = (nI 0, 0, ko, kn, kc) := by
  unfold isS
  simp only [hk, hw, if_pos h0, if_pos hl]
  rcases h with h | h
  · rw [if_neg h]
    split <;> rfl
  · rw [if_pos (by rw [Int64.lt_iff_toInt_lt] at h; rw [Int64.le_iff_toInt_le]; omega)]
theorem wr_yes {nk : Nat} {ko : Nat → Nat → Int32} {kn : Nat → Nat} {kc : Nat → Int64} {ml : Nat} {msg : Nat → Int32} {k w : Int32} {c : Int64} {i q : Nat} (hk : kf nk k = some i) (hw : kf nk w = some q) (h0 : 0 ≤ c) (hl : ml = 24) (h : wrB (ko q) c msg = true) (h2 : kc i < c) : isS nk ko kn kc ml msg k w c = (nI 1, 0, va_up ko i (fun j => msg j ^^^ ENC (ko q) (pneF (fun _ => nI 0) c) j), va_up kn i 0, va_up kc i c) := by
  unfold isS
  simp only [hk, hw, if_pos h0, if_pos hl]
  rw [if_neg (by rw [Int64.lt_iff_toInt_lt] at h2; rw [Int64.le_iff_toInt_le]; omega), if_pos h]
theorem my_no2 {nk : Nat} {sl : Nat → Int32} {id k : Int32} {on9 : Bool} (h : kf nk k = none) : myS nk sl id k on9 = (-1, sl) := by
  unfold myS
  simp only [h]
  cases kf 64 id <;> rfl
theorem my_no1 {nk : Nat} {sl : Nat → Int32} {id k : Int32} {on9 : Bool} (h : kf nk k = none) : (-1 : Int32) = (myS nk sl id k on9).1 := by rw [my_no2 h]
abbrev muX5_verify : Mu := (cX5_verify, 7, RX5, (some .int), "verify", 4, 0, 0, 102)
theorem hd_X5_verify : yX5_verify.cls = RX5 ∧ yX5_verify.cls ≠ "java/lang/invoke/MethodHandle" ∧ yX5_verify.cls ≠ "java/lang/invoke/VarHandle" ∧ (parseMethodDescriptor yX5_verify.desc).map (fun d => d.parameters.length) = some 3 := by decide +kernel
set_option maxHeartbeats 4000000 in
set_option maxRecDepth 100000 in
theorem k_X5_verify (l : Launch) (E : Ev) (mm oc nx ia ms ot my co bd bk oh rd mk rw ss : Nat) (cd : Int32) (nk ln os : Nat) (tp : Int64) (foc fnx frd fbk foh fmk frw msg fmy fbd : Nat → Int32) (fis fco : Nat → Int64) (ko : Nat → Nat → Int32) (kn : Nat → Nat) (kc : Nat → Int64) (sc : Nat → Int64) (sb : Nat → Nat) (sl : Nat → Int32) (k id cut : Int32) (L : List Nat) (F : Nat → va_E) (hnk : nk ≤ 16) (hMK : MK foc fnx fis nk ko kn kc) (hmsg : ∀ j, j < 300 → isO (msg j)) (hml : ln ≤ 300) (hMS : MS fco fbd fmy sc sb sl) (hSO : ∀ j, j < 64 → sb j ≤ 5 ∧ 0 ≤ (sc j).toInt ∧ (sc j).toInt ≤ 4611686018427387904 ∧ slO (sl j)) : KC l E yX5_verify muX5_verify [.ref mm, .int (k), .int (id), .int (cut)] [(mm, .inr (7, [.int (cd), .int (nI (nk)), .ref oc, .ref nx, .ref ia, .ref ms, .int (nI (ln)), .int (nI (os)), .ref ot, .long (tp), .ref my, .ref co, .ref bd, .ref bk, .ref oh, .ref rd, .ref mk, .ref rw, .ref ss])), (oc, aI E 272 (foc)), (rd, aI E 176 (frd)), (ss, aI E 256 (TB)), (bk, aI E 16 (fbk)), (oh, aI E 16 (foh)), (mk, aI E 16 (fmk)), (rw, aI E 320 (frw)), (ms, aI E 300 (msg)), (my, aZ E 1105 (fmy)), (co, aJ E 65 (fco)), (bd, aI E 65 (fbd))] L F (fun r8 cx8 L8 F8 => ∃ (ml1 : Nat) (frd1 fbk1 foh1 fmk1 frw1 : Nat → Int32) (fco1 : Nat → Int64) (fbd1 : Nat → Int32), r8 = some (.int ((vfS nk ko ln msg tp sc sb sl k id cut).1)) ∧ cx8 = [(mm, .inr (7, [.int (nI 0), .int (nI (nk)), .ref oc, .ref nx, .ref ia, .ref ms, .int (nI (ml1)), .int (nI (os)), .ref ot, .long (tp), .ref my, .ref co, .ref bd, .ref bk, .ref oh, .ref rd, .ref mk, .ref rw, .ref ss])), (oc, aI E 272 (foc)), (rd, aI E 176 (frd1)), (ss, aI E 256 (TB)), (bk, aI E 16 (fbk1)), (oh, aI E 16 (foh1)), (mk, aI E 16 (fmk1)), (rw, aI E 320 (frw1)), (ms, aI E 300 (msg)), (my, aZ E 1105 (fmy)), (co, aJ E 65 (fco1)), (bd, aI E 65 (fbd1))] ∧ L = L8 ∧ F = F8 ∧ (ml1 = (vfS nk ko ln msg tp sc sb sl k id cut).2.1 ∧ MS fco1 fbd1 fmy (vfS nk ko ln msg tp sc sb sl k id cut).2.2.1 (vfS nk ko ln msg tp sc sb sl k id cut).2.2.2 sl)) := by
  refine K_start (by decide) rfl rfl (Nat.le_of_ble_eq_true rfl) (fun g A Q hgl C r => ?_)
  subst hgl
  show G g muX5_verify E A 0 0 Q [(mm, .inr (7, [.int (cd), .int (nI (nk)), .ref oc, .ref nx, .ref ia, .ref ms, .int (nI (ln)), .int (nI (os)), .ref ot, .long (tp), .ref my, .ref co, .ref bd, .ref bk, .ref oh, .ref rd, .ref mk, .ref rw, .ref ss])), (oc, aI E 272 (foc)), (rd, aI E 176 (frd)), (ss, aI E 256 (TB)), (bk, aI E 16 (fbk)), (oh, aI E 16 (foh)), (mk, aI E 16 (fmk)), (rw, aI E 320 (frw)), (ms, aI E 300 (msg)), (my, aZ E 1105 (fmy)), (co, aJ E 65 (fco)), (bd, aI E 65 (fbd))] L F 0 [(0, .ref mm), (1, .int (k)), (2, .int (id)), (3, .int (cut))] []
  refine g_aload_n C dX5_verify_0 rfl 0 rfl ?_
  refine g_iload_n C dX5_verify_1 rfl 1 rfl ?_
  refine g_callV (v := muX5_noKey) (cx := [(mm, .inr (7, [.int (cd), .int (nI (nk)), .ref oc, .ref nx, .ref ia, .ref ms, .int (nI (ln)), .int (nI (os)), .ref ot, .long (tp), .ref my, .ref co, .ref bd, .ref bk, .ref oh, .ref rd, .ref mk, .ref rw, .ref ss]))]) C (k_X5_noKey (gl g) E mm oc nx ia ms ot my co bd bk oh rd mk rw ss cd nk ln os tp k L F ) [0] rfl (by decide) 0 rfl rfl gi_X5_82 hd_X5_noKey ⟨Nat.le_of_ble_eq_true rfl, Nat.le_of_ble_eq_true rfl⟩ rfl rfl (Nat.le_of_ble_eq_true rfl) ⟨Nat.le_of_ble_eq_true rfl, Nat.le_of_ble_eq_true rfl⟩ dX5_verify_2 (fun r9 cx9 L9 F9 hp9 hf9 hN9 => ?_)
  obtain ⟨rfl, rfl, rfl, rfl, -⟩ := hp9
  show G g muX5_verify E A 0 0 Q [(mm, .inr (7, [.int (nI 0), .int (nI (nk)), .ref oc, .ref nx, .ref ia, .ref ms, .int (nI (ln)), .int (nI (os)), .ref ot, .long (tp), .ref my, .ref co, .ref bd, .ref bk, .ref oh, .ref rd, .ref mk, .ref rw, .ref ss])), (oc, aI E 272 (foc)), (rd, aI E 176 (frd)), (ss, aI E 256 (TB)), (bk, aI E 16 (fbk)), (oh, aI E 16 (foh)), (mk, aI E 16 (fmk)), (rw, aI E 320 (frw)), (ms, aI E 300 (msg)), (my, aZ E 1105 (fmy)), (co, aJ E 65 (fco)), (bd, aI E 65 (fbd))] L F 5 [(0, .ref mm), (1, .int (k)), (2, .int (id)), (3, .int (cut))] [.int (b2 (kf nk k).isNone)]
  refine g_if_ne (tgt := 15) C dX5_verify_5 (by decide) (fun c5 => ?_) (fun c5 => ?_)
  · skip
    have hkf := kf_no (b2_t c5)
    refine g_iconst (v := (-1 : Int32)) C dX5_verify_15 (by decide) ?_
    refine g_asi (show (-1) = ((vfS nk ko ln msg tp sc sb sl k id cut).1) from (by unfold vfS; simp only [hkf])) ?_
    exact g_iret C r rfl ⟨ln, frd, fbk, foh, fmk, frw, fco, fbd, rfl, rfl, rfl, rfl, by unfold vfS; simp only [hkf]; exact ⟨trivial, hMS⟩⟩ rfl nN dX5_verify_16
  · skip
    obtain ⟨i, hkf⟩ := kf_ex (b2_f c5)
    obtain ⟨hi, hke⟩ := kf_key hkf hnk
    refine g_iload_n C dX5_verify_8 rfl 2 rfl ?_
    refine g_callS (v := muX5_noSender) (cx := []) C (k_X5_noSender (gl g) E id L F ) [] rfl (by decide) gi_X5_99 hd_X5_noSender.2 ⟨Nat.le_of_ble_eq_true rfl, Nat.le_of_ble_eq_true rfl⟩ rfl rfl (Nat.le_of_ble_eq_true rfl) ⟨Nat.le_of_ble_eq_true rfl, Nat.le_of_ble_eq_true rfl⟩ dX5_verify_9 (fun r9 cx9 L9 F9 hp9 hf9 hN9 => ?_)
    obtain ⟨rfl, rfl, rfl, rfl, -⟩ := hp9
    show G g muX5_verify E A 0 0 Q [(mm, .inr (7, [.int (nI 0), .int (nI (nk)), .ref oc, .ref nx, .ref ia, .ref ms, .int (nI (ln)), .int (nI (os)), .ref ot, .long (tp), .ref my, .ref co, .ref bd, .ref bk, .ref oh, .ref rd, .ref mk, .ref rw, .ref ss])), (oc, aI E 272 (foc)), (rd, aI E 176 (frd)), (ss, aI E 256 (TB)), (bk, aI E 16 (fbk)), (oh, aI E 16 (foh)), (mk, aI E 16 (fmk)), (rw, aI E 320 (frw)), (ms, aI E 300 (msg)), (my, aZ E 1105 (fmy)), (co, aJ E 65 (fco)), (bd, aI E 65 (fbd))] L F 12 [(0, .ref mm), (1, .int (k)), (2, .int (id)), (3, .int (cut))] [.int (b2 (kf 64 id).isNone)]
    refine g_if_eq (tgt := 17) C dX5_verify_12 (by decide) (fun c12 => ?_) (fun c12 => ?_)
    · skip
      obtain ⟨j, hsf⟩ := kf_ex (b2_f c12)
      obtain ⟨hj, hje⟩ := kf_some (by omega) hsf
      have hsb5 := (hSO j hj).1
      refine g_iload_n C dX5_verify_17 rfl 3 rfl ?_
      refine g_if_lt (tgt := 28) C dX5_verify_18 (by decide) (fun c18 => ?_) (fun c18 => ?_)
      · skip
        refine g_bipush (v := (-2 : Int32)) C dX5_verify_28 (by decide) ?_
        refine g_asi (show (-2) = ((vfS nk ko ln msg tp sc sb sl k id cut).1) from (by unfold vfS; simp only [hkf, hsf, if_pos c18])) ?_
        exact g_iret C r rfl ⟨ln, frd, fbk, foh, fmk, frw, fco, fbd, rfl, rfl, rfl, rfl, by unfold vfS; simp only [hkf, hsf, if_pos c18]; exact ⟨trivial, hMS⟩⟩ rfl nN dX5_verify_30
      · skip
        refine g_iload_n C dX5_verify_21 rfl 3 rfl ?_
        refine g_sipush (v := nI (255)) C dX5_verify_22 (by decide) ?_
        refine g_icmp_le (tgt := 31) C dX5_verify_25 (by decide) (fun c25 => ?_) (fun c25 => ?_)
        · skip
          refine g_aload_n C dX5_verify_31 rfl 0 rfl ?_
          refine g_getX C 0 rfl rfl inX5 10 (by decide) m_430 rfl dX5_verify_32 ?_
          refine g_bipush (v := nI (17)) C dX5_verify_35 (by decide) ?_
          refine g_iload_n C dX5_verify_37 rfl 2 rfl ?_
          refine g_asi (show (id) = (nI (j + 1)) from hje) ?_
          refine g_imul C dX5_verify_38 ?_
          refine g_asi (pk_mul _ _) ?_
          refine g_iload_n C dX5_verify_39 rfl 1 rfl ?_
          refine g_asi (show (k) = (nI (i + 1)) from hke) ?_
          refine g_iadd C dX5_verify_40 ?_
          refine g_asi (nI_add _ _) ?_
          refine g_zald C 9 rfl (by omega) (by decide) dX5_verify_41 ?_
          refine g_asi (show (fmy ((17 * (j + 1)) + (i + 1))) = (b2 (mayB (sl j) k)) from (by rw [(hMS j hj).2.2 i (by omega), hke])) ?_
          refine g_if_eq (tgt := 64) C dX5_verify_42 (by decide) (fun c42 => ?_) (fun c42 => ?_)
          · skip
            have hm : ¬ mayB (sl j) k = true := by rw [b2_f c42]; exact Bool.false_ne_true
            refine g_bipush (v := (-3 : Int32)) C dX5_verify_64 (by decide) ?_
            refine g_asi (show (-3) = ((vfS nk ko ln msg tp sc sb sl k id cut).1) from (by unfold vfS; simp only [hkf, hsf, if_neg c18, if_pos c25, if_neg hm])) ?_
            exact g_iret C r rfl ⟨ln, frd, fbk, foh, fmk, frw, fco, fbd, rfl, rfl, rfl, rfl, by unfold vfS; simp only [hkf, hsf, if_neg c18, if_pos c25, if_neg hm]; exact ⟨trivial, hMS⟩⟩ rfl nN dX5_verify_66
          · skip
            have hm := b2_t c42
            refine g_aload_n C dX5_verify_45 rfl 0 rfl ?_
            refine g_getX C 0 rfl rfl inX5 12 (by decide) m_432 rfl dX5_verify_46 ?_
            refine g_iload_n C dX5_verify_49 rfl 2 rfl ?_
            refine g_asi (show (id) = (nI (j + 1)) from hje) ?_
            refine g_iald C 11 rfl (by omega) (by decide) dX5_verify_50 ?_
            refine g_asi (show (fbd (j + 1)) = (nI (sb j)) from (hMS j hj).2.1) ?_
            refine g_iconst (v := nI (5)) C dX5_verify_51 (by decide) ?_
            refine g_nicmp_eq (tgt := 64) C dX5_verify_52 (by decide) (by omega) (by omega) (fun c52 => ?_) (fun c52 => ?_)
            · skip
              have hbl : 5 ≤ sb j := by omega
              refine g_bipush (v := (-3 : Int32)) C dX5_verify_64 (by decide) ?_
              refine g_asi (show (-3) = ((vfS nk ko ln msg tp sc sb sl k id cut).1) from (by unfold vfS; simp only [hkf, hsf, if_neg c18, if_pos c25, if_pos hm, if_pos hbl])) ?_
              exact g_iret C r rfl ⟨ln, frd, fbk, foh, fmk, frw, fco, fbd, rfl, rfl, rfl, rfl, by unfold vfS; simp only [hkf, hsf, if_neg c18, if_pos c25, if_pos hm, if_pos hbl]; exact ⟨trivial, hMS⟩⟩ rfl nN dX5_verify_66
            · skip
              have hbl : ¬ 5 ≤ sb j := by have := (hSO j hj).1; omega
              refine g_aload_n C dX5_verify_55 rfl 0 rfl ?_
              refine g_getX C 0 rfl rfl inX5 6 (by decide) m_426 rfl dX5_verify_56 ?_
              refine g_bipush (v := nI (8)) C dX5_verify_59 (by decide) ?_
              refine g_nicmp_ge (tgt := 67) C dX5_verify_61 (by decide) (by omega) (by omega) (fun c61 => ?_) (fun c61 => ?_)
              · skip
                refine g_aload_n C dX5_verify_67 rfl 0 rfl ?_
                refine g_getX C 0 rfl rfl inX5 6 (by decide) m_426 rfl dX5_verify_68 ?_
                refine g_bipush (v := nI (8)) C dX5_verify_71 (by decide) ?_
                refine g_isub C dX5_verify_73 ?_
                refine g_asi (pk_sub (by omega)) ?_
                refine g_istore (lv' := [(4, .int (nI (ln - 8))), (0, .ref mm), (1, .int (k)), (2, .int (id)), (3, .int (cut))]) C dX5_verify_74 (by decide) rfl ?_
                refine g_aload_n C dX5_verify_76 rfl 1 rfl ?_
                refine g_iconst (v := nI (0)) C dX5_verify_77 (by decide) ?_
                refine g_putX (X' := [(mm, .inr (7, [.int (nI 0), .int (nI (nk)), .ref oc, .ref nx, .ref ia, .ref ms, .int (nI (0)), .int (nI (os)), .ref ot, .long (tp), .ref my, .ref co, .ref bd, .ref bk, .ref oh, .ref rd, .ref mk, .ref rw, .ref ss])), (oc, aI E 272 (foc)), (rd, aI E 176 (frd)), (ss, aI E 256 (TB)), (bk, aI E 16 (fbk)), (oh, aI E 16 (foh)), (mk, aI E 16 (fmk)), (rw, aI E 320 (frw)), (ms, aI E 300 (msg)), (my, aZ E 1105 (fmy)), (co, aJ E 65 (fco)), (bd, aI E 65 (fbd))]) C 0 rfl rfl inX5 tyX5 tyX5_ok nmX5 6 (by decide) m_426 rfl rfl rfl (Nat.le_of_ble_eq_true rfl) rfl dX5_verify_78 ?_
                refine g_iload_n C dX5_verify_81 rfl 4 rfl ?_
                refine g_i2l (v := (cut).toInt64) C dX5_verify_82 rfl ?_
                refine g_aload_n C dX5_verify_83 rfl 1 rfl ?_
                refine g_getX C 0 rfl rfl inX5 11 (by decide) m_431 rfl dX5_verify_84 ?_
                refine g_iload_n C dX5_verify_87 rfl 3 rfl ?_
                refine g_asi (show (id) = (nI (j + 1)) from hje) ?_
                refine g_lald C 10 rfl (by omega) (by decide) dX5_verify_88 ?_
                refine g_asl (show (fco (j + 1)) = (sc j) from (hMS j hj).1) ?_
                refine g_ldc2_w C m_552 dX5_verify_89 ?_
                refine g_land C dX5_verify_92 ?_
                refine g_lsub C dX5_verify_93 ?_
                refine g_ldc2_w C m_553 dX5_verify_94 ?_
                refine g_ladd C dX5_verify_97 ?_
                refine g_ldc2_w C m_553 dX5_verify_98 ?_
                refine g_lrem C dX5_verify_101 (by decide) ?_
                refine g_l2i (v := (((((cut).toInt64) - ((sc j) &&& 255)) + 256) - ((((cut).toInt64) - ((sc j) &&& 255)) + 256) / 256 * 256).toInt32) C dX5_verify_102 rfl ?_
                refine g_asi (show ((((((cut).toInt64) - ((sc j) &&& 255)) + 256) - ((((cut).toInt64) - ((sc j) &&& 255)) + 256) / 256 * 256).toInt32) = (dS cut (sc j)) from d_eq c18 c25) ?_
                refine g_istore (lv' := [(5, .int (dS cut (sc j))), (4, .int (nI (ln - 8))), (0, .ref mm), (1, .int (k)), (2, .int (id)), (3, .int (cut))]) C dX5_verify_103 (by decide) rfl ?_
                refine g_iload C dX5_verify_105 0 rfl ?_
                refine g_if_ne (tgt := 112) C dX5_verify_107 (by decide) (fun c107 => ?_) (fun c107 => ?_)
                · skip
                  refine g_iload C dX5_verify_112 0 rfl ?_
                  refine g_bipush (v := nI (64)) C dX5_verify_114 (by decide) ?_
                  refine g_icmp_gt (tgt := 136) C dX5_verify_116 (by decide) (fun c116 => ?_) (fun c116 => ?_)
                  · skip
                    refine g_iconst (v := nI (2)) C dX5_verify_136 (by decide) ?_
                    refine g_asi (show (nI (2)) = ((vfS nk ko ln msg tp sc sb sl k id cut).1) from (by unfold vfS; simp only [hkf, hsf, if_neg c18, if_pos c25, if_pos hm, if_neg hbl, if_pos c61, if_neg c107, if_pos c116])) ?_
                    exact g_iret C r rfl ⟨0, frd, fbk, foh, fmk, frw, fco, fbd, rfl, rfl, rfl, rfl, by unfold vfS; simp only [hkf, hsf, if_neg c18, if_pos c25, if_pos hm, if_neg hbl, if_pos c61, if_neg c107, if_pos c116]; exact ⟨trivial, hMS⟩⟩ rfl nN dX5_verify_137
                  · skip
                    refine g_aload_n C dX5_verify_119 rfl 2 rfl ?_
                    refine g_getX C 0 rfl rfl inX5 11 (by decide) m_431 rfl dX5_verify_120 ?_
                    refine g_iload_n C dX5_verify_123 rfl 4 rfl ?_
                    refine g_asi (show (id) = (nI (j + 1)) from hje) ?_
                    refine g_lald C 10 rfl (by omega) (by decide) dX5_verify_124 ?_
                    refine g_asl (show (fco (j + 1)) = (sc j) from (hMS j hj).1) ?_
                    refine g_ldc2_w C m_547 dX5_verify_125 ?_
                    refine g_iload C dX5_verify_128 0 rfl ?_
                    refine g_i2l (v := (dS cut (sc j)).toInt64) C dX5_verify_130 rfl ?_
                    refine g_lsub C dX5_verify_131 ?_
                    refine g_lcmp C dX5_verify_132 ?_
                    refine g_if_le (tgt := 138) C dX5_verify_133 (by decide) (fun c133 => ?_) (fun c133 => ?_)
                    · skip
                      rw [lg_cmp_le] at c133
                      have c133' := (l62 (hSO j hj).2.1 (hSO j hj).2.2.1 (dS_of _ _)).mp c133
                      refine g_aload_n C dX5_verify_138 rfl 2 rfl ?_
                      refine g_iload_n C dX5_verify_139 rfl 4 rfl ?_
                      refine g_asi (show (id) = (nI (j + 1)) from hje) ?_
                      refine g_i2l (v := (nI (j + 1)).toInt64) C dX5_verify_140 rfl ?_
                      refine g_iconst (v := nI (1)) C dX5_verify_141 (by decide) ?_
                      refine g_iconst (v := nI (0)) C dX5_verify_142 (by decide) ?_
                      refine g_callV (v := muX5_number) (cx := [(mm, .inr (7, [.int (nI 0), .int (nI (nk)), .ref oc, .ref nx, .ref ia, .ref ms, .int (nI (0)), .int (nI (os)), .ref ot, .long (tp), .ref my, .ref co, .ref bd, .ref bk, .ref oh, .ref rd, .ref mk, .ref rw, .ref ss])), (rw, aI E 320 (frw))]) C (k_X5_number (gl g) E mm oc nx ia ms ot my co bd bk oh rd mk rw ss (nI 0) nk 0 os tp frw ((nI (j + 1)).toInt64) 1 0 L F (by omega) (by omega)) [0, 7] rfl (by decide) 0 rfl rfl gi_X5_108 hd_X5_number ⟨Nat.le_of_ble_eq_true rfl, Nat.le_of_ble_eq_true rfl⟩ rfl rfl (Nat.le_of_ble_eq_true rfl) ⟨Nat.le_of_ble_eq_true rfl, Nat.le_of_ble_eq_true rfl⟩ dX5_verify_143 (fun r9 cx9 L9 F9 hp9 hf9 hN9 => ?_)
                      obtain ⟨w1, rfl, rfl, rfl, rfl, wa1, wb1⟩ := hp9
                      show G g muX5_verify E A 0 0 Q [(mm, .inr (7, [.int (nI 0), .int (nI (nk)), .ref oc, .ref nx, .ref ia, .ref ms, .int (nI (0)), .int (nI (os)), .ref ot, .long (tp), .ref my, .ref co, .ref bd, .ref bk, .ref oh, .ref rd, .ref mk, .ref rw, .ref ss])), (oc, aI E 272 (foc)), (rd, aI E 176 (frd)), (ss, aI E 256 (TB)), (bk, aI E 16 (fbk)), (oh, aI E 16 (foh)), (mk, aI E 16 (fmk)), (rw, aI E 320 (w1)), (ms, aI E 300 (msg)), (my, aZ E 1105 (fmy)), (co, aJ E 65 (fco)), (bd, aI E 65 (fbd))] L F 146 [(5, .int (dS cut (sc j))), (4, .int (nI (ln - 8))), (0, .ref mm), (1, .int (k)), (2, .int (id)), (3, .int (cut))] []
                      refine g_aload_n C dX5_verify_146 rfl 2 rfl ?_
                      refine g_aload_n C dX5_verify_147 rfl 2 rfl ?_
                      refine g_getX C 0 rfl rfl inX5 9 (by decide) m_429 rfl dX5_verify_148 ?_
                      refine g_iconst (v := nI (4)) C dX5_verify_151 (by decide) ?_
                      refine g_iconst (v := nI (1)) C dX5_verify_152 (by decide) ?_
                      refine g_callV (v := muX5_number) (cx := [(mm, .inr (7, [.int (nI 0), .int (nI (nk)), .ref oc, .ref nx, .ref ia, .ref ms, .int (nI (0)), .int (nI (os)), .ref ot, .long (tp), .ref my, .ref co, .ref bd, .ref bk, .ref oh, .ref rd, .ref mk, .ref rw, .ref ss])), (rw, aI E 320 (w1))]) C (k_X5_number (gl g) E mm oc nx ia ms ot my co bd bk oh rd mk rw ss (nI 0) nk 0 os tp w1 tp 4 1 L F (by omega) (by omega)) [0, 7] rfl (by decide) 0 rfl rfl gi_X5_108 hd_X5_number ⟨Nat.le_of_ble_eq_true rfl, Nat.le_of_ble_eq_true rfl⟩ rfl rfl (Nat.le_of_ble_eq_true rfl) ⟨Nat.le_of_ble_eq_true rfl, Nat.le_of_ble_eq_true rfl⟩ dX5_verify_153 (fun r9 cx9 L9 F9 hp9 hf9 hN9 => ?_)
                      obtain ⟨w2, rfl, rfl, rfl, rfl, wa2, wb2⟩ := hp9
                      show G g muX5_verify E A 0 0 Q [(mm, .inr (7, [.int (nI 0), .int (nI (nk)), .ref oc, .ref nx, .ref ia, .ref ms, .int (nI (0)), .int (nI (os)), .ref ot, .long (tp), .ref my, .ref co, .ref bd, .ref bk, .ref oh, .ref rd, .ref mk, .ref rw, .ref ss])), (oc, aI E 272 (foc)), (rd, aI E 176 (frd)), (ss, aI E 256 (TB)), (bk, aI E 16 (fbk)), (oh, aI E 16 (foh)), (mk, aI E 16 (fmk)), (rw, aI E 320 (w2)), (ms, aI E 300 (msg)), (my, aZ E 1105 (fmy)), (co, aJ E 65 (fco)), (bd, aI E 65 (fbd))] L F 156 [(5, .int (dS cut (sc j))), (4, .int (nI (ln - 8))), (0, .ref mm), (1, .int (k)), (2, .int (id)), (3, .int (cut))] []
                      refine g_aload_n C dX5_verify_156 rfl 2 rfl ?_
                      refine g_aload_n C dX5_verify_157 rfl 2 rfl ?_
                      refine g_getX C 0 rfl rfl inX5 11 (by decide) m_431 rfl dX5_verify_158 ?_
                      refine g_iload_n C dX5_verify_161 rfl 4 rfl ?_
                      refine g_asi (show (id) = (nI (j + 1)) from hje) ?_
                      refine g_lald C 10 rfl (by omega) (by decide) dX5_verify_162 ?_
                      refine g_asl (show (fco (j + 1)) = (sc j) from (hMS j hj).1) ?_
                      refine g_iload C dX5_verify_163 0 rfl ?_
                      refine g_i2l (v := (dS cut (sc j)).toInt64) C dX5_verify_165 rfl ?_
                      refine g_ladd C dX5_verify_166 ?_
                      refine g_bipush (v := nI (8)) C dX5_verify_167 (by decide) ?_
                      refine g_iconst (v := nI (5)) C dX5_verify_169 (by decide) ?_
                      refine g_callV (v := muX5_number) (cx := [(mm, .inr (7, [.int (nI 0), .int (nI (nk)), .ref oc, .ref nx, .ref ia, .ref ms, .int (nI (0)), .int (nI (os)), .ref ot, .long (tp), .ref my, .ref co, .ref bd, .ref bk, .ref oh, .ref rd, .ref mk, .ref rw, .ref ss])), (rw, aI E 320 (w2))]) C (k_X5_number (gl g) E mm oc nx ia ms ot my co bd bk oh rd mk rw ss (nI 0) nk 0 os tp w2 (sc j + (dS cut (sc j)).toInt64) 8 5 L F (by omega) (by omega)) [0, 7] rfl (by decide) 0 rfl rfl gi_X5_108 hd_X5_number ⟨Nat.le_of_ble_eq_true rfl, Nat.le_of_ble_eq_true rfl⟩ rfl rfl (Nat.le_of_ble_eq_true rfl) ⟨Nat.le_of_ble_eq_true rfl, Nat.le_of_ble_eq_true rfl⟩ dX5_verify_170 (fun r9 cx9 L9 F9 hp9 hf9 hN9 => ?_)
                      obtain ⟨w3, rfl, rfl, rfl, rfl, wa3, wb3⟩ := hp9
                      show G g muX5_verify E A 0 0 Q [(mm, .inr (7, [.int (nI 0), .int (nI (nk)), .ref oc, .ref nx, .ref ia, .ref ms, .int (nI (0)), .int (nI (os)), .ref ot, .long (tp), .ref my, .ref co, .ref bd, .ref bk, .ref oh, .ref rd, .ref mk, .ref rw, .ref ss])), (oc, aI E 272 (foc)), (rd, aI E 176 (frd)), (ss, aI E 256 (TB)), (bk, aI E 16 (fbk)), (oh, aI E 16 (foh)), (mk, aI E 16 (fmk)), (rw, aI E 320 (w3)), (ms, aI E 300 (msg)), (my, aZ E 1105 (fmy)), (co, aJ E 65 (fco)), (bd, aI E 65 (fbd))] L F 173 [(5, .int (dS cut (sc j))), (4, .int (nI (ln - 8))), (0, .ref mm), (1, .int (k)), (2, .int (id)), (3, .int (cut))] []
                      refine g_iconst (v := nI (0)) C dX5_verify_173 (by decide) ?_
                      refine g_istore (lv' := [(6, .int (nI (0))), (5, .int (dS cut (sc j))), (4, .int (nI (ln - 8))), (0, .ref mm), (1, .int (k)), (2, .int (id)), (3, .int (cut))]) C dX5_verify_174 (by decide) rfl ?_
                      have lp176 : ∀ (n176 : Nat) (q : Nat) (f1 : Nat → Int32), (q ≤ ln - 8) → (∀ p, p < 13 + q → f1 p = cdM (nI (j + 1)) tp (sc j + (dS cut (sc j)).toInt64) msg p) → ln - 8 + 1 ≤ q + n176 → G g muX5_verify E A 0 0 Q [(mm, .inr (7, [.int (nI 0), .int (nI (nk)), .ref oc, .ref nx, .ref ia, .ref ms, .int (nI (0)), .int (nI (os)), .ref ot, .long (tp), .ref my, .ref co, .ref bd, .ref bk, .ref oh, .ref rd, .ref mk, .ref rw, .ref ss])), (oc, aI E 272 (foc)), (rd, aI E 176 (frd)), (ss, aI E 256 (TB)), (bk, aI E 16 (fbk)), (oh, aI E 16 (foh)), (mk, aI E 16 (fmk)), (rw, aI E 320 (f1)), (ms, aI E 300 (msg)), (my, aZ E 1105 (fmy)), (co, aJ E 65 (fco)), (bd, aI E 65 (fbd))] L F 176 [(0, .ref mm), (1, .int (k)), (2, .int (id)), (3, .int (cut)), (4, .int (nI (ln - 8))), (5, .int (dS cut (sc j))), (6, .int (nI (q)))] [] := by
                        intro n176
                        induction n176 with
                        | zero => intro q f1 hq hf hfu176; exact absurd hfu176 (by omega)
                        | succ n176 ih176 =>
                          intro q f1 hq hf hfu176
                          refine g_iload C dX5_verify_176 6 rfl ?_
                          refine g_iload C dX5_verify_178 4 rfl ?_
                          refine g_nicmp_ge (tgt := 206) C dX5_verify_180 (by decide) (by omega) (by omega) (fun c180 => ?_) (fun c180 => ?_)
                          · skip
                            refine g_aload_n C dX5_verify_206 rfl 0 rfl ?_
                            refine g_bipush (v := nI (16)) C dX5_verify_207 (by decide) ?_
                            refine g_iload_n C dX5_verify_209 rfl 1 rfl ?_
                            refine g_asi (show (k) = (nI (i + 1)) from hke) ?_
                            refine g_imul C dX5_verify_210 ?_
                            refine g_asi (pk_mul _ _) ?_
                            refine g_bipush (v := nI (13)) C dX5_verify_211 (by decide) ?_
                            refine g_iload C dX5_verify_213 4 rfl ?_
                            refine g_iadd C dX5_verify_215 ?_
                            refine g_asi (nI_add _ _) ?_
                            refine g_callV (v := muX5_codeOf) (cx := [(mm, .inr (7, [.int (nI 0), .int (nI (nk)), .ref oc, .ref nx, .ref ia, .ref ms, .int (nI (0)), .int (nI (os)), .ref ot, .long (tp), .ref my, .ref co, .ref bd, .ref bk, .ref oh, .ref rd, .ref mk, .ref rw, .ref ss])), (oc, aI E 272 (foc)), (rd, aI E 176 (frd)), (ss, aI E 256 (TB)), (bk, aI E 16 (fbk)), (oh, aI E 16 (foh)), (mk, aI E 16 (fmk)), (rw, aI E 320 (f1))]) C (k_X5_codeOf (gl g) E mm oc nx ia ms ot my co bd bk oh rd mk rw ss (nI 0) nk 0 os tp foc frd fbk foh fmk f1 (ko i) (cdM (nI (j + 1)) tp (sc j + (dS cut (sc j)).toInt64) msg) (16 * (i + 1)) (13 + (ln - 8)) L F (by omega) (fun j hj => ((hMK.1 i hi).1 j hj).1) (fun j hj => ((hMK.1 i hi).1 j hj).2) (by omega) (fun p hp => hf p (by omega)) (cdM_O hmsg _ _ _ (by omega))) [0, 1, 2, 3, 4, 5, 6, 7] rfl (by decide) 0 rfl rfl gi_X5_92 hd_X5_codeOf ⟨Nat.le_of_ble_eq_true rfl, Nat.le_of_ble_eq_true rfl⟩ rfl rfl (Nat.le_of_ble_eq_true rfl) ⟨Nat.le_of_ble_eq_true rfl, Nat.le_of_ble_eq_true rfl⟩ dX5_verify_216 (fun r9 cx9 L9 F9 hp9 hf9 hN9 => ?_)
                            obtain ⟨fh1, fm1, rfl, rfl, rfl, rfl, -⟩ := hp9
                            show G g muX5_verify E A 0 0 Q [(mm, .inr (7, [.int (nI 0), .int (nI (nk)), .ref oc, .ref nx, .ref ia, .ref ms, .int (nI (0)), .int (nI (os)), .ref ot, .long (tp), .ref my, .ref co, .ref bd, .ref bk, .ref oh, .ref rd, .ref mk, .ref rw, .ref ss])), (oc, aI E 272 (foc)), (rd, aI E 176 (rk (ko i))), (ss, aI E 256 (TB)), (bk, aI E 16 (CMAC (ko i) (cdM (nI (j + 1)) tp (sc j + (dS cut (sc j)).toInt64) msg) (13 + (ln - 8)))), (oh, aI E 16 (fh1)), (mk, aI E 16 (fm1)), (rw, aI E 320 (f1)), (ms, aI E 300 (msg)), (my, aZ E 1105 (fmy)), (co, aJ E 65 (fco)), (bd, aI E 65 (fbd))] L F 219 [(0, .ref mm), (1, .int (k)), (2, .int (id)), (3, .int (cut)), (4, .int (nI (ln - 8))), (5, .int (dS cut (sc j))), (6, .int (nI (q)))] []
                            refine g_aload_n C dX5_verify_219 rfl 0 rfl ?_
                            refine g_iload C dX5_verify_220 4 rfl ?_
                            refine g_callV (v := muX5_fits) (cx := [(mm, .inr (7, [.int (nI 0), .int (nI (nk)), .ref oc, .ref nx, .ref ia, .ref ms, .int (nI (0)), .int (nI (os)), .ref ot, .long (tp), .ref my, .ref co, .ref bd, .ref bk, .ref oh, .ref rd, .ref mk, .ref rw, .ref ss])), (ms, aI E 300 (msg)), (bk, aI E 16 (CMAC (ko i) (cdM (nI (j + 1)) tp (sc j + (dS cut (sc j)).toInt64) msg) (13 + (ln - 8))))]) C (k_X5_fits (gl g) E mm oc nx ia ms ot my co bd bk oh rd mk rw ss (nI 0) nk 0 os tp msg (CMAC (ko i) (cdM (nI (j + 1)) tp (sc j + (dS cut (sc j)).toInt64) msg) (13 + (ln - 8))) (ln - 8) L F (by omega)) [0, 8, 4] rfl (by decide) 0 rfl rfl gi_X5_116 hd_X5_fits ⟨Nat.le_of_ble_eq_true rfl, Nat.le_of_ble_eq_true rfl⟩ rfl rfl (Nat.le_of_ble_eq_true rfl) ⟨Nat.le_of_ble_eq_true rfl, Nat.le_of_ble_eq_true rfl⟩ dX5_verify_222 (fun r9 cx9 L9 F9 hp9 hf9 hN9 => ?_)
                            obtain ⟨rfl, rfl, rfl, rfl, -⟩ := hp9
                            show G g muX5_verify E A 0 0 Q [(mm, .inr (7, [.int (nI 0), .int (nI (nk)), .ref oc, .ref nx, .ref ia, .ref ms, .int (nI (0)), .int (nI (os)), .ref ot, .long (tp), .ref my, .ref co, .ref bd, .ref bk, .ref oh, .ref rd, .ref mk, .ref rw, .ref ss])), (oc, aI E 272 (foc)), (rd, aI E 176 (rk (ko i))), (ss, aI E 256 (TB)), (bk, aI E 16 (CMAC (ko i) (cdM (nI (j + 1)) tp (sc j + (dS cut (sc j)).toInt64) msg) (13 + (ln - 8)))), (oh, aI E 16 (fh1)), (mk, aI E 16 (fm1)), (rw, aI E 320 (f1)), (ms, aI E 300 (msg)), (my, aZ E 1105 (fmy)), (co, aJ E 65 (fco)), (bd, aI E 65 (fbd))] L F 225 [(0, .ref mm), (1, .int (k)), (2, .int (id)), (3, .int (cut)), (4, .int (nI (ln - 8))), (5, .int (dS cut (sc j))), (6, .int (nI (q)))] [.int (b2 (eqN (CMAC (ko i) (cdM (nI (j + 1)) tp (sc j + (dS cut (sc j)).toInt64) msg) (13 + (ln - 8))) (fun j => msg ((ln - 8) + j)) 8))]
                            refine g_asi (show (b2 (eqN (CMAC (ko i) (cdM (nI (j + 1)) tp (sc j + (dS cut (sc j)).toInt64) msg) (13 + (ln - 8))) (fun j => msg ((ln - 8) + j)) 8)) = (b2 (cdB (ko i) (nI (j + 1)) tp (sc j + (dS cut (sc j)).toInt64) msg ln)) from rfl) ?_
                            refine g_istore (lv' := [(6, .int (b2 (cdB (ko i) (nI (j + 1)) tp (sc j + (dS cut (sc j)).toInt64) msg ln))), (0, .ref mm), (1, .int (k)), (2, .int (id)), (3, .int (cut)), (4, .int (nI (ln - 8))), (5, .int (dS cut (sc j)))]) C dX5_verify_225 (by decide) rfl ?_
                            refine g_aload_n C dX5_verify_227 rfl 1 rfl ?_
                            refine g_getX C 0 rfl rfl inX5 12 (by decide) m_432 rfl dX5_verify_228 ?_
                            refine g_iload_n C dX5_verify_231 rfl 3 rfl ?_
                            refine g_asi (show (id) = (nI (j + 1)) from hje) ?_
                            refine g_iload C dX5_verify_232 0 rfl ?_
                            refine g_if_eq (tgt := 241) C dX5_verify_234 (by decide) (fun c234 => ?_) (fun c234 => ?_)
                            · skip
                              have hg : ¬ cdB (ko i) (nI (j + 1)) tp (sc j + (dS cut (sc j)).toInt64) msg ln = true := by rw [b2_f c234]; exact Bool.false_ne_true
                              refine g_aload_n C dX5_verify_241 rfl 1 rfl ?_
                              refine g_getX C 0 rfl rfl inX5 12 (by decide) m_432 rfl dX5_verify_242 ?_
                              refine g_iload_n C dX5_verify_245 rfl 3 rfl ?_
                              refine g_asi (show (id) = (nI (j + 1)) from hje) ?_
                              refine g_iald C 11 rfl (by omega) (by decide) dX5_verify_246 ?_
                              refine g_asi (show (fbd (j + 1)) = (nI (sb j)) from (hMS j hj).2.1) ?_
                              refine g_iconst (v := nI (1)) C dX5_verify_247 (by decide) ?_
                              refine g_iadd C dX5_verify_248 ?_
                              refine g_asi (nI_add _ _) ?_
                              refine g_iast (X' := [(mm, .inr (7, [.int (nI 0), .int (nI (nk)), .ref oc, .ref nx, .ref ia, .ref ms, .int (nI (0)), .int (nI (os)), .ref ot, .long (tp), .ref my, .ref co, .ref bd, .ref bk, .ref oh, .ref rd, .ref mk, .ref rw, .ref ss])), (oc, aI E 272 (foc)), (rd, aI E 176 (rk (ko i))), (ss, aI E 256 (TB)), (bk, aI E 16 (CMAC (ko i) (cdM (nI (j + 1)) tp (sc j + (dS cut (sc j)).toInt64) msg) (13 + (ln - 8)))), (oh, aI E 16 (fh1)), (mk, aI E 16 (fm1)), (rw, aI E 320 (f1)), (ms, aI E 300 (msg)), (my, aZ E 1105 (fmy)), (co, aJ E 65 (fco)), (bd, aI E 65 (upd fbd (j + 1) (nI ((sb j) + 1))))]) C 11 rfl (by omega) (by decide) rfl dX5_verify_249 ?_
                              refine g_aload_n C dX5_verify_250 rfl 1 rfl ?_
                              refine g_getX C 0 rfl rfl inX5 11 (by decide) m_431 rfl dX5_verify_251 ?_
                              refine g_iload_n C dX5_verify_254 rfl 3 rfl ?_
                              refine g_asi (show (id) = (nI (j + 1)) from hje) ?_
                              refine g_iload C dX5_verify_255 0 rfl ?_
                              refine g_if_eq (tgt := 273) C dX5_verify_257 (by decide) (fun c257 => ?_) (fun c257 => ?_)
                              · skip
                                refine g_aload_n C dX5_verify_273 rfl 1 rfl ?_
                                refine g_getX C 0 rfl rfl inX5 11 (by decide) m_431 rfl dX5_verify_274 ?_
                                refine g_iload_n C dX5_verify_277 rfl 3 rfl ?_
                                refine g_asi (show (id) = (nI (j + 1)) from hje) ?_
                                refine g_lald C 10 rfl (by omega) (by decide) dX5_verify_278 ?_
                                refine g_asl (show (fco (j + 1)) = (sc j) from (hMS j hj).1) ?_
                                refine g_last (X' := [(mm, .inr (7, [.int (nI 0), .int (nI (nk)), .ref oc, .ref nx, .ref ia, .ref ms, .int (nI (0)), .int (nI (os)), .ref ot, .long (tp), .ref my, .ref co, .ref bd, .ref bk, .ref oh, .ref rd, .ref mk, .ref rw, .ref ss])), (oc, aI E 272 (foc)), (rd, aI E 176 (rk (ko i))), (ss, aI E 256 (TB)), (bk, aI E 16 (CMAC (ko i) (cdM (nI (j + 1)) tp (sc j + (dS cut (sc j)).toInt64) msg) (13 + (ln - 8)))), (oh, aI E 16 (fh1)), (mk, aI E 16 (fm1)), (rw, aI E 320 (f1)), (ms, aI E 300 (msg)), (my, aZ E 1105 (fmy)), (co, aJ E 65 (vp_updL fco (j + 1) (sc j))), (bd, aI E 65 (upd fbd (j + 1) (nI ((sb j) + 1))))]) C 10 rfl (by omega) (by decide) rfl dX5_verify_279 ?_
                                refine g_iload C dX5_verify_280 0 rfl ?_
                                refine g_if_eq (tgt := 289) C dX5_verify_282 (by decide) (fun c282 => ?_) (fun c282 => ?_)
                                · skip
                                  refine g_iconst (v := nI (0)) C dX5_verify_289 (by decide) ?_
                                  refine g_asi (show (nI (0)) = ((vfS nk ko ln msg tp sc sb sl k id cut).1) from (by unfold vfS; simp only [hkf, hsf, if_neg c18, if_pos c25, if_pos hm, if_neg hbl, if_pos c61, if_neg c107, if_neg c116, if_pos c133']; exact c234.symm)) ?_
                                  exact g_iret C r rfl ⟨0, rk (ko i), CMAC (ko i) (cdM (nI (j + 1)) tp (sc j + (dS cut (sc j)).toInt64) msg) (13 + (ln - 8)), fh1, fm1, f1, vp_updL fco (j + 1) (sc j), upd fbd (j + 1) (nI ((sb j) + 1)), rfl, rfl, rfl, rfl, by unfold vfS; simp only [hkf, hsf, if_neg c18, if_pos c25, if_pos hm, if_neg hbl, if_pos c61, if_neg c107, if_neg c116, if_pos c133']; exact ⟨trivial, by rw [if_neg hg, if_neg hg]; exact MS_cb hMS _ _⟩⟩ rfl nN dX5_verify_290
                                · skip
                                  exact absurd c234 c282
                              · skip
                                exact absurd c234 c257
                            · skip
                              have hg := b2_t c234
                              refine g_iconst (v := nI (0)) C dX5_verify_237 (by decide) ?_
                              refine g_goto (tgt := 249) C dX5_verify_238 (by decide) ?_
                              refine g_iast (X' := [(mm, .inr (7, [.int (nI 0), .int (nI (nk)), .ref oc, .ref nx, .ref ia, .ref ms, .int (nI (0)), .int (nI (os)), .ref ot, .long (tp), .ref my, .ref co, .ref bd, .ref bk, .ref oh, .ref rd, .ref mk, .ref rw, .ref ss])), (oc, aI E 272 (foc)), (rd, aI E 176 (rk (ko i))), (ss, aI E 256 (TB)), (bk, aI E 16 (CMAC (ko i) (cdM (nI (j + 1)) tp (sc j + (dS cut (sc j)).toInt64) msg) (13 + (ln - 8)))), (oh, aI E 16 (fh1)), (mk, aI E 16 (fm1)), (rw, aI E 320 (f1)), (ms, aI E 300 (msg)), (my, aZ E 1105 (fmy)), (co, aJ E 65 (fco)), (bd, aI E 65 (upd fbd (j + 1) (nI (0))))]) C 11 rfl (by omega) (by decide) rfl dX5_verify_249 ?_
                              refine g_aload_n C dX5_verify_250 rfl 1 rfl ?_
                              refine g_getX C 0 rfl rfl inX5 11 (by decide) m_431 rfl dX5_verify_251 ?_
                              refine g_iload_n C dX5_verify_254 rfl 3 rfl ?_
                              refine g_asi (show (id) = (nI (j + 1)) from hje) ?_
                              refine g_iload C dX5_verify_255 0 rfl ?_
                              refine g_if_eq (tgt := 273) C dX5_verify_257 (by decide) (fun c257 => ?_) (fun c257 => ?_)
                              · skip
                                exact absurd c257 c234
                              · skip
                                refine g_aload_n C dX5_verify_260 rfl 1 rfl ?_
                                refine g_getX C 0 rfl rfl inX5 11 (by decide) m_431 rfl dX5_verify_261 ?_
                                refine g_iload_n C dX5_verify_264 rfl 3 rfl ?_
                                refine g_asi (show (id) = (nI (j + 1)) from hje) ?_
                                refine g_lald C 10 rfl (by omega) (by decide) dX5_verify_265 ?_
                                refine g_asl (show (fco (j + 1)) = (sc j) from (hMS j hj).1) ?_
                                refine g_iload C dX5_verify_266 6 rfl ?_
                                refine g_i2l (v := (dS cut (sc j)).toInt64) C dX5_verify_268 rfl ?_
                                refine g_ladd C dX5_verify_269 ?_
                                refine g_goto (tgt := 279) C dX5_verify_270 (by decide) ?_
                                refine g_last (X' := [(mm, .inr (7, [.int (nI 0), .int (nI (nk)), .ref oc, .ref nx, .ref ia, .ref ms, .int (nI (0)), .int (nI (os)), .ref ot, .long (tp), .ref my, .ref co, .ref bd, .ref bk, .ref oh, .ref rd, .ref mk, .ref rw, .ref ss])), (oc, aI E 272 (foc)), (rd, aI E 176 (rk (ko i))), (ss, aI E 256 (TB)), (bk, aI E 16 (CMAC (ko i) (cdM (nI (j + 1)) tp (sc j + (dS cut (sc j)).toInt64) msg) (13 + (ln - 8)))), (oh, aI E 16 (fh1)), (mk, aI E 16 (fm1)), (rw, aI E 320 (f1)), (ms, aI E 300 (msg)), (my, aZ E 1105 (fmy)), (co, aJ E 65 (vp_updL fco (j + 1) ((sc j) + ((dS cut (sc j)).toInt64)))), (bd, aI E 65 (upd fbd (j + 1) (nI (0))))]) C 10 rfl (by omega) (by decide) rfl dX5_verify_279 ?_
                                refine g_iload C dX5_verify_280 0 rfl ?_
                                refine g_if_eq (tgt := 289) C dX5_verify_282 (by decide) (fun c282 => ?_) (fun c282 => ?_)
                                · skip
                                  exact absurd c282 c234
                                · skip
                                  refine g_iconst (v := nI (1)) C dX5_verify_285 (by decide) ?_
                                  refine g_asi (show (nI (1)) = ((vfS nk ko ln msg tp sc sb sl k id cut).1) from (by unfold vfS; simp only [hkf, hsf, if_neg c18, if_pos c25, if_pos hm, if_neg hbl, if_pos c61, if_neg c107, if_neg c116, if_pos c133']; rw [hg]; rfl)) ?_
                                  refine g_goto (tgt := 290) C dX5_verify_286 (by decide) ?_
                                  exact g_iret C r rfl ⟨0, rk (ko i), CMAC (ko i) (cdM (nI (j + 1)) tp (sc j + (dS cut (sc j)).toInt64) msg) (13 + (ln - 8)), fh1, fm1, f1, vp_updL fco (j + 1) ((sc j) + ((dS cut (sc j)).toInt64)), upd fbd (j + 1) (nI (0)), rfl, rfl, rfl, rfl, by unfold vfS; simp only [hkf, hsf, if_neg c18, if_pos c25, if_pos hm, if_neg hbl, if_pos c61, if_neg c107, if_neg c116, if_pos c133']; exact ⟨trivial, by rw [if_pos hg, if_pos hg]; exact MS_cb hMS _ _⟩⟩ rfl nN dX5_verify_290
                          · skip
                            refine g_aload_n C dX5_verify_183 rfl 0 rfl ?_
                            refine g_getX C 0 rfl rfl inX5 17 (by decide) m_437 rfl dX5_verify_184 ?_
                            refine g_bipush (v := nI (13)) C dX5_verify_187 (by decide) ?_
                            refine g_iload C dX5_verify_189 6 rfl ?_
                            refine g_iadd C dX5_verify_191 ?_
                            refine g_asi (nI_add _ _) ?_
                            refine g_aload_n C dX5_verify_192 rfl 0 rfl ?_
                            refine g_getX C 0 rfl rfl inX5 5 (by decide) m_425 rfl dX5_verify_193 ?_
                            refine g_iload C dX5_verify_196 6 rfl ?_
                            refine g_iald C 8 rfl (by omega) (by decide) dX5_verify_198 ?_
                            refine g_iast (X' := [(mm, .inr (7, [.int (nI 0), .int (nI (nk)), .ref oc, .ref nx, .ref ia, .ref ms, .int (nI (0)), .int (nI (os)), .ref ot, .long (tp), .ref my, .ref co, .ref bd, .ref bk, .ref oh, .ref rd, .ref mk, .ref rw, .ref ss])), (oc, aI E 272 (foc)), (rd, aI E 176 (frd)), (ss, aI E 256 (TB)), (bk, aI E 16 (fbk)), (oh, aI E 16 (foh)), (mk, aI E 16 (fmk)), (rw, aI E 320 (upd f1 (13 + q) (msg q))), (ms, aI E 300 (msg)), (my, aZ E 1105 (fmy)), (co, aJ E 65 (fco)), (bd, aI E 65 (fbd))]) C 7 rfl (by omega) (by decide) rfl dX5_verify_199 ?_
                            refine g_iinc (v := nI (q + 1)) (lv' := [(6, .int (nI (q + 1))), (0, .ref mm), (1, .int (k)), (2, .int (id)), (3, .int (cut)), (4, .int (nI (ln - 8))), (5, .int (dS cut (sc j)))]) C dX5_verify_200 6 rfl (nI_inc _ 1) (by decide) rfl ?_
                            refine g_goto (tgt := 176) C dX5_verify_203 (by decide) ?_
                            refine g_lv [1, 2, 3, 4, 5, 6, 0] rfl ?_
                            exact ih176 (q + 1) (upd f1 (13 + q) (msg q)) (by omega) (cd_s hf) (by omega)
                      refine g_lv [3, 4, 5, 6, 2, 1, 0] rfl ?_
                      exact lp176 (ln - 8 + 1) 0 w3 (Nat.zero_le _) (cd_0 wa1 wb1 wa2 wb2 wa3 wb3) (by omega)
                    · skip
                      rw [lg_cmp_le] at c133
                      have c133' := fun z => c133 ((l62 (hSO j hj).2.1 (hSO j hj).2.2.1 (dS_of _ _)).mpr z)
                      refine g_iconst (v := nI (2)) C dX5_verify_136 (by decide) ?_
                      refine g_asi (show (nI (2)) = ((vfS nk ko ln msg tp sc sb sl k id cut).1) from (by unfold vfS; simp only [hkf, hsf, if_neg c18, if_pos c25, if_pos hm, if_neg hbl, if_pos c61, if_neg c107, if_neg c116, if_neg c133'])) ?_
                      exact g_iret C r rfl ⟨0, frd, fbk, foh, fmk, frw, fco, fbd, rfl, rfl, rfl, rfl, by unfold vfS; simp only [hkf, hsf, if_neg c18, if_pos c25, if_pos hm, if_neg hbl, if_pos c61, if_neg c107, if_neg c116, if_neg c133']; exact ⟨trivial, hMS⟩⟩ rfl nN dX5_verify_137
                · skip
                  refine g_iconst (v := nI (0)) C dX5_verify_110 (by decide) ?_
                  refine g_asi (show (nI (0)) = ((vfS nk ko ln msg tp sc sb sl k id cut).1) from (by unfold vfS; simp only [hkf, hsf, if_neg c18, if_pos c25, if_pos hm, if_neg hbl, if_pos c61, if_pos c107])) ?_
                  exact g_iret C r rfl ⟨0, frd, fbk, foh, fmk, frw, fco, fbd, rfl, rfl, rfl, rfl, by unfold vfS; simp only [hkf, hsf, if_neg c18, if_pos c25, if_pos hm, if_neg hbl, if_pos c61, if_pos c107]; exact ⟨trivial, hMS⟩⟩ rfl nN dX5_verify_111
              · skip
                refine g_bipush (v := (-3 : Int32)) C dX5_verify_64 (by decide) ?_
                refine g_asi (show (-3) = ((vfS nk ko ln msg tp sc sb sl k id cut).1) from (by unfold vfS; simp only [hkf, hsf, if_neg c18, if_pos c25, if_pos hm, if_neg hbl, if_neg (show ¬ 8 ≤ ln by omega)])) ?_
                exact g_iret C r rfl ⟨ln, frd, fbk, foh, fmk, frw, fco, fbd, rfl, rfl, rfl, rfl, by unfold vfS; simp only [hkf, hsf, if_neg c18, if_pos c25, if_pos hm, if_neg hbl, if_neg (show ¬ 8 ≤ ln by omega)]; exact ⟨trivial, hMS⟩⟩ rfl nN dX5_verify_66
        · skip
          refine g_bipush (v := (-2 : Int32)) C dX5_verify_28 (by decide) ?_
          refine g_asi (show (-2) = ((vfS nk ko ln msg tp sc sb sl k id cut).1) from (by unfold vfS; simp only [hkf, hsf, if_neg c18, if_neg c25])) ?_
          exact g_iret C r rfl ⟨ln, frd, fbk, foh, fmk, frw, fco, fbd, rfl, rfl, rfl, rfl, by unfold vfS; simp only [hkf, hsf, if_neg c18, if_neg c25]; exact ⟨trivial, hMS⟩⟩ rfl nN dX5_verify_30
    · skip
      have hsf := kf_no (b2_t c12)
      refine g_iconst (v := (-1 : Int32)) C dX5_verify_15 (by decide) ?_
      refine g_asi (show (-1) = ((vfS nk ko ln msg tp sc sb sl k id cut).1) from (by unfold vfS; simp only [hkf, hsf])) ?_
      exact g_iret C r rfl ⟨ln, frd, fbk, foh, fmk, frw, fco, fbd, rfl, rfl, rfl, rfl, by unfold vfS; simp only [hkf, hsf]; exact ⟨trivial, hMS⟩⟩ rfl nN dX5_verify_16
abbrev muX5_may : Mu := (cX5_may, 6, RX5, (some .int), "may", 1, 0, 0, 21)
theorem hd_X5_may : yX5_may.cls = RX5 ∧ yX5_may.cls ≠ "java/lang/invoke/MethodHandle" ∧ yX5_may.cls ≠ "java/lang/invoke/VarHandle" ∧ (parseMethodDescriptor yX5_may.desc).map (fun d => d.parameters.length) = some 3 := by decide +kernel
set_option maxHeartbeats 4000000 in
set_option maxRecDepth 100000 in
theorem k_X5_may (l : Launch) (E : Ev) (mm oc nx ia ms ot my co bd bk oh rd mk rw ss : Nat) (cd : Int32) (nk ln os : Nat) (tp : Int64) (fmy fbd : Nat → Int32) (fco : Nat → Int64) (sc : Nat → Int64) (sb : Nat → Nat) (sl : Nat → Int32) (id k : Int32) (on9 : Bool) (L : List Nat) (F : Nat → va_E) (hnk : nk ≤ 16) (hMS : MS fco fbd fmy sc sb sl) (hSO : ∀ j, j < 64 → sb j ≤ 5 ∧ 0 ≤ (sc j).toInt ∧ (sc j).toInt ≤ 4611686018427387904 ∧ slO (sl j)) : KC l E yX5_may muX5_may [.ref mm, .int (id), .int (k), .int (b2 on9)] [(mm, .inr (7, [.int (cd), .int (nI (nk)), .ref oc, .ref nx, .ref ia, .ref ms, .int (nI (ln)), .int (nI (os)), .ref ot, .long (tp), .ref my, .ref co, .ref bd, .ref bk, .ref oh, .ref rd, .ref mk, .ref rw, .ref ss])), (my, aZ E 1105 (fmy))] L F (fun r8 cx8 L8 F8 => ∃ (fmy1 : Nat → Int32), r8 = some (.int ((myS nk sl id k on9).1)) ∧ cx8 = [(mm, .inr (7, [.int (nI 0), .int (nI (nk)), .ref oc, .ref nx, .ref ia, .ref ms, .int (nI (ln)), .int (nI (os)), .ref ot, .long (tp), .ref my, .ref co, .ref bd, .ref bk, .ref oh, .ref rd, .ref mk, .ref rw, .ref ss])), (my, aZ E 1105 (fmy1))] ∧ L = L8 ∧ F = F8 ∧ (MS fco fbd fmy1 sc sb (myS nk sl id k on9).2)) := by
  refine K_start (by decide) rfl rfl (Nat.le_of_ble_eq_true rfl) (fun g A Q hgl C r => ?_)
  subst hgl
  show G g muX5_may E A 0 0 Q [(mm, .inr (7, [.int (cd), .int (nI (nk)), .ref oc, .ref nx, .ref ia, .ref ms, .int (nI (ln)), .int (nI (os)), .ref ot, .long (tp), .ref my, .ref co, .ref bd, .ref bk, .ref oh, .ref rd, .ref mk, .ref rw, .ref ss])), (my, aZ E 1105 (fmy))] L F 0 [(0, .ref mm), (1, .int (id)), (2, .int (k)), (3, .int (b2 on9))] []
  refine g_aload_n C dX5_may_0 rfl 0 rfl ?_
  refine g_iload_n C dX5_may_1 rfl 2 rfl ?_
  refine g_callV (v := muX5_noKey) (cx := [(mm, .inr (7, [.int (cd), .int (nI (nk)), .ref oc, .ref nx, .ref ia, .ref ms, .int (nI (ln)), .int (nI (os)), .ref ot, .long (tp), .ref my, .ref co, .ref bd, .ref bk, .ref oh, .ref rd, .ref mk, .ref rw, .ref ss]))]) C (k_X5_noKey (gl g) E mm oc nx ia ms ot my co bd bk oh rd mk rw ss cd nk ln os tp k L F ) [0] rfl (by decide) 0 rfl rfl gi_X5_82 hd_X5_noKey ⟨Nat.le_of_ble_eq_true rfl, Nat.le_of_ble_eq_true rfl⟩ rfl rfl (Nat.le_of_ble_eq_true rfl) ⟨Nat.le_of_ble_eq_true rfl, Nat.le_of_ble_eq_true rfl⟩ dX5_may_2 (fun r9 cx9 L9 F9 hp9 hf9 hN9 => ?_)
  obtain ⟨rfl, rfl, rfl, rfl, -⟩ := hp9
  show G g muX5_may E A 0 0 Q [(mm, .inr (7, [.int (nI 0), .int (nI (nk)), .ref oc, .ref nx, .ref ia, .ref ms, .int (nI (ln)), .int (nI (os)), .ref ot, .long (tp), .ref my, .ref co, .ref bd, .ref bk, .ref oh, .ref rd, .ref mk, .ref rw, .ref ss])), (my, aZ E 1105 (fmy))] L F 5 [(0, .ref mm), (1, .int (id)), (2, .int (k)), (3, .int (b2 on9))] [.int (b2 (kf nk k).isNone)]
  refine g_if_ne (tgt := 15) C dX5_may_5 (by decide) (fun c5 => ?_) (fun c5 => ?_)
  · skip
    have hkf := kf_no (b2_t c5)
    refine g_iconst (v := (-1 : Int32)) C dX5_may_15 (by decide) ?_
    refine g_asi (show (-1) = ((myS nk sl id k on9).1) from my_no1 hkf) ?_
    exact g_iret C r rfl ⟨fmy, rfl, rfl, rfl, rfl, by rw [my_no2 (sl := sl) (id := id) (on9 := on9) hkf]; exact hMS⟩ rfl nN dX5_may_16
  · skip
    obtain ⟨i, hkf⟩ := kf_ex (b2_f c5)
    obtain ⟨hi, hke⟩ := kf_key hkf hnk
    refine g_iload_n C dX5_may_8 rfl 1 rfl ?_
    refine g_callS (v := muX5_noSender) (cx := []) C (k_X5_noSender (gl g) E id L F ) [] rfl (by decide) gi_X5_99 hd_X5_noSender.2 ⟨Nat.le_of_ble_eq_true rfl, Nat.le_of_ble_eq_true rfl⟩ rfl rfl (Nat.le_of_ble_eq_true rfl) ⟨Nat.le_of_ble_eq_true rfl, Nat.le_of_ble_eq_true rfl⟩ dX5_may_9 (fun r9 cx9 L9 F9 hp9 hf9 hN9 => ?_)
    obtain ⟨rfl, rfl, rfl, rfl, -⟩ := hp9
    show G g muX5_may E A 0 0 Q [(mm, .inr (7, [.int (nI 0), .int (nI (nk)), .ref oc, .ref nx, .ref ia, .ref ms, .int (nI (ln)), .int (nI (os)), .ref ot, .long (tp), .ref my, .ref co, .ref bd, .ref bk, .ref oh, .ref rd, .ref mk, .ref rw, .ref ss])), (my, aZ E 1105 (fmy))] L F 12 [(0, .ref mm), (1, .int (id)), (2, .int (k)), (3, .int (b2 on9))] [.int (b2 (kf 64 id).isNone)]
    refine g_if_eq (tgt := 17) C dX5_may_12 (by decide) (fun c12 => ?_) (fun c12 => ?_)
    · skip
      obtain ⟨j, hsf⟩ := kf_ex (b2_f c12)
      obtain ⟨hj, hje⟩ := kf_some (by omega) hsf
      refine g_aload_n C dX5_may_17 rfl 0 rfl ?_
      refine g_getX C 0 rfl rfl inX5 10 (by decide) m_430 rfl dX5_may_18 ?_
      refine g_bipush (v := nI (17)) C dX5_may_21 (by decide) ?_
      refine g_iload_n C dX5_may_23 rfl 1 rfl ?_
      refine g_asi (show (id) = (nI (j + 1)) from hje) ?_
      refine g_imul C dX5_may_24 ?_
      refine g_asi (pk_mul _ _) ?_
      refine g_iload_n C dX5_may_25 rfl 2 rfl ?_
      refine g_asi (show (k) = (nI (i + 1)) from hke) ?_
      refine g_iadd C dX5_may_26 ?_
      refine g_asi (nI_add _ _) ?_
      refine g_iload_n C dX5_may_27 rfl 3 rfl ?_
      refine g_zast (X' := [(mm, .inr (7, [.int (nI 0), .int (nI (nk)), .ref oc, .ref nx, .ref ia, .ref ms, .int (nI (ln)), .int (nI (os)), .ref ot, .long (tp), .ref my, .ref co, .ref bd, .ref bk, .ref oh, .ref rd, .ref mk, .ref rw, .ref ss])), (my, aZ E 1105 (upd fmy ((17 * (j + 1)) + (i + 1)) (vp_nar .boolean (b2 on9))))]) C 1 rfl (by omega) (by decide) rfl dX5_may_28 ?_
      refine g_cgZ (f' := upd fmy (17 * (j + 1) + (i + 1)) (b2 on9)) (X' := [(mm, .inr (7, [.int (nI 0), .int (nI (nk)), .ref oc, .ref nx, .ref ia, .ref ms, .int (nI (ln)), .int (nI (os)), .ref ot, .long (tp), .ref my, .ref co, .ref bd, .ref bk, .ref oh, .ref rd, .ref mk, .ref rw, .ref ss])), (my, aZ E 1105 (upd fmy (17 * (j + 1) + (i + 1)) (b2 on9)))]) 1 rfl (fun p _ => by rw [nar_b2]) rfl ?_
      have hMS2 := MS_m hMS (j := j) (show i < 16 by omega) on9
      rw [← hke] at hMS2
      have hrd : ∀ q, q < 16 → upd fmy (17 * (j + 1) + (i + 1)) (b2 on9) (17 * (j + 1) + (q + 1)) = b2 (mayB (alw (sl j) k on9) (nI (q + 1))) := fun q hq => by
        have h9 := (hMS2 j hj).2.2 q hq
        rw [va_up_self] at h9
        exact h9
      have hsl : slO (alw (sl j) k on9) := by rw [hke]; exact alw_slO (hSO j hj).2.2.2 (by omega) on9
      refine g_iconst (v := nI (0)) C dX5_may_29 (by decide) ?_
      refine g_istore (lv' := [(4, .int (nI (0))), (0, .ref mm), (1, .int (id)), (2, .int (k)), (3, .int (b2 on9))]) C dX5_may_30 (by decide) rfl ?_
      refine g_iconst (v := nI (1)) C dX5_may_32 (by decide) ?_
      refine g_istore (lv' := [(5, .int (nI (1))), (4, .int (nI (0))), (0, .ref mm), (1, .int (id)), (2, .int (k)), (3, .int (b2 on9))]) C dX5_may_33 (by decide) rfl ?_
      have lp35 : ∀ (n35 : Nat) (q n9 : Nat), (q ≤ 16) → (n9 = cn8 (alw (sl j) k on9) q) → 17 ≤ q + n35 → G g muX5_may E A 0 0 Q [(mm, .inr (7, [.int (nI 0), .int (nI (nk)), .ref oc, .ref nx, .ref ia, .ref ms, .int (nI (ln)), .int (nI (os)), .ref ot, .long (tp), .ref my, .ref co, .ref bd, .ref bk, .ref oh, .ref rd, .ref mk, .ref rw, .ref ss])), (my, aZ E 1105 (upd fmy (17 * (j + 1) + (i + 1)) (b2 on9)))] L F 35 [(0, .ref mm), (1, .int (id)), (2, .int (k)), (3, .int (b2 on9)), (4, .int (nI (n9))), (5, .int (nI (q + 1)))] [] := by
        intro n35
        induction n35 with
        | zero => intro q n9 hq hn9 hfu35; exact absurd hfu35 (by omega)
        | succ n35 ih35 =>
          intro q n9 hq hn9 hfu35
          refine g_iload C dX5_may_35 5 rfl ?_
          refine g_bipush (v := nI (17)) C dX5_may_37 (by decide) ?_
          refine g_nicmp_ge (tgt := 74) C dX5_may_39 (by decide) (by omega) (by omega) (fun c39 => ?_) (fun c39 => ?_)
          · skip
            refine g_iload C dX5_may_74 4 rfl ?_
            refine g_asi (show (nI (n9)) = ((myS nk sl id k on9).1) from (by unfold myS; simp only [hkf, hsf]; rw [hn9, show q = 16 by omega, bc_cn8 hsl])) ?_
            exact g_iret C r rfl ⟨upd fmy (17 * (j + 1) + (i + 1)) (b2 on9), rfl, rfl, rfl, rfl, by unfold myS; simp only [hkf, hsf]; exact hMS2⟩ rfl nN dX5_may_76
          · skip
            refine g_aload_n C dX5_may_42 rfl 0 rfl ?_
            refine g_getX C 0 rfl rfl inX5 10 (by decide) m_430 rfl dX5_may_43 ?_
            refine g_bipush (v := nI (17)) C dX5_may_46 (by decide) ?_
            refine g_iload_n C dX5_may_48 rfl 1 rfl ?_
            refine g_asi (show (id) = (nI (j + 1)) from hje) ?_
            refine g_imul C dX5_may_49 ?_
            refine g_asi (pk_mul _ _) ?_
            refine g_iload C dX5_may_50 5 rfl ?_
            refine g_iadd C dX5_may_52 ?_
            refine g_asi (nI_add _ _) ?_
            refine g_zald C 1 rfl (by omega) (by decide) dX5_may_53 ?_
            refine g_asi (show ((upd fmy (17 * (j + 1) + (i + 1)) (b2 on9)) ((17 * (j + 1)) + (q + 1))) = (b2 (mayB (alw (sl j) k on9) (nI (q + 1)))) from hrd q (by omega)) ?_
            refine g_if_eq (tgt := 64) C dX5_may_54 (by decide) (fun c54 => ?_) (fun c54 => ?_)
            · skip
              refine g_iload C dX5_may_64 4 rfl ?_
              refine g_istore (lv' := [(4, .int (nI (n9))), (0, .ref mm), (1, .int (id)), (2, .int (k)), (3, .int (b2 on9)), (5, .int (nI (q + 1)))]) C dX5_may_66 (by decide) rfl ?_
              refine g_iinc (v := nI (q + 1 + 1)) (lv' := [(5, .int (nI (q + 1 + 1))), (4, .int (nI (n9))), (0, .ref mm), (1, .int (id)), (2, .int (k)), (3, .int (b2 on9))]) C dX5_may_68 5 rfl (nI_inc _ 1) (by decide) rfl ?_
              refine g_goto (tgt := 35) C dX5_may_71 (by decide) ?_
              refine g_lv [2, 3, 4, 5, 1, 0] rfl ?_
              exact ih35 (q + 1) n9 (by omega) (by rw [cn8, if_neg (by rw [b2_f c54]; exact Bool.false_ne_true), hn9]; rfl) (by omega)
            · skip
              refine g_iload C dX5_may_57 4 rfl ?_
              refine g_iconst (v := nI (1)) C dX5_may_59 (by decide) ?_
              refine g_iadd C dX5_may_60 ?_
              refine g_asi (nI_add _ _) ?_
              refine g_goto (tgt := 66) C dX5_may_61 (by decide) ?_
              refine g_istore (lv' := [(4, .int (nI (n9 + 1))), (0, .ref mm), (1, .int (id)), (2, .int (k)), (3, .int (b2 on9)), (5, .int (nI (q + 1)))]) C dX5_may_66 (by decide) rfl ?_
              refine g_iinc (v := nI (q + 1 + 1)) (lv' := [(5, .int (nI (q + 1 + 1))), (4, .int (nI (n9 + 1))), (0, .ref mm), (1, .int (id)), (2, .int (k)), (3, .int (b2 on9))]) C dX5_may_68 5 rfl (nI_inc _ 1) (by decide) rfl ?_
              refine g_goto (tgt := 35) C dX5_may_71 (by decide) ?_
              refine g_lv [2, 3, 4, 5, 1, 0] rfl ?_
              exact ih35 (q + 1) (n9 + 1) (by omega) (by rw [cn8, if_pos (b2_t c54), hn9]) (by omega)
      refine g_lv [2, 3, 4, 5, 1, 0] rfl ?_
      exact lp35 17 0 0 (Nat.zero_le _) rfl (by omega)
    · skip
      have hsf := kf_no (b2_t c12)
      refine g_iconst (v := (-1 : Int32)) C dX5_may_15 (by decide) ?_
      refine g_asi (show (-1) = ((myS nk sl id k on9).1) from (by unfold myS; simp only [hsf])) ?_
      exact g_iret C r rfl ⟨fmy, rfl, rfl, rfl, rfl, by unfold myS; simp only [hsf]; exact hMS⟩ rfl nN dX5_may_16
abbrev muX5_install : Mu := (cX5_install, 6, RX5, (some .int), "install", 4, 0, 0, 102)
theorem hd_X5_install : yX5_install.cls = RX5 ∧ yX5_install.cls ≠ "java/lang/invoke/MethodHandle" ∧ yX5_install.cls ≠ "java/lang/invoke/VarHandle" ∧ (parseMethodDescriptor yX5_install.desc).map (fun d => d.parameters.length) = some 3 := by decide +kernel
set_option maxHeartbeats 4000000 in
set_option maxRecDepth 100000 in
theorem k_X5_install (l : Launch) (E : Ev) (mm oc nx ia ms ot my co bd bk oh rd mk rw ss : Nat) (cd : Int32) (nk ln os : Nat) (tp : Int64) (foc fnx frd fbk foh fmk frw msg : Nat → Int32) (fis : Nat → Int64) (ko : Nat → Nat → Int32) (kn : Nat → Nat) (kc : Nat → Int64) (k w : Int32) (c : Int64) (L : List Nat) (F : Nat → va_E) (hnk : nk ≤ 16) (hMK : MK foc fnx fis nk ko kn kc) (hmsg : ∀ j, j < 300 → isO (msg j)) (hml : ln ≤ 300) : KC l E yX5_install muX5_install [.ref mm, .int (k), .int (w), .long (c)] [(mm, .inr (7, [.int (cd), .int (nI (nk)), .ref oc, .ref nx, .ref ia, .ref ms, .int (nI (ln)), .int (nI (os)), .ref ot, .long (tp), .ref my, .ref co, .ref bd, .ref bk, .ref oh, .ref rd, .ref mk, .ref rw, .ref ss])), (oc, aI E 272 (foc)), (nx, aI E 17 (fnx)), (ia, aJ E 17 (fis)), (rd, aI E 176 (frd)), (ss, aI E 256 (TB)), (bk, aI E 16 (fbk)), (oh, aI E 16 (foh)), (mk, aI E 16 (fmk)), (rw, aI E 320 (frw)), (ms, aI E 300 (msg))] L F (fun r8 cx8 L8 F8 => ∃ (ml1 : Nat) (foc1 fnx1 : Nat → Int32) (fis1 : Nat → Int64) (frd1 fbk1 foh1 fmk1 frw1 : Nat → Int32), r8 = some (.int ((isS nk ko kn kc ln msg k w c).1)) ∧ cx8 = [(mm, .inr (7, [.int (nI 0), .int (nI (nk)), .ref oc, .ref nx, .ref ia, .ref ms, .int (nI (ml1)), .int (nI (os)), .ref ot, .long (tp), .ref my, .ref co, .ref bd, .ref bk, .ref oh, .ref rd, .ref mk, .ref rw, .ref ss])), (oc, aI E 272 (foc1)), (nx, aI E 17 (fnx1)), (ia, aJ E 17 (fis1)), (rd, aI E 176 (frd1)), (ss, aI E 256 (TB)), (bk, aI E 16 (fbk1)), (oh, aI E 16 (foh1)), (mk, aI E 16 (fmk1)), (rw, aI E 320 (frw1)), (ms, aI E 300 (msg))] ∧ L = L8 ∧ F = F8 ∧ (ml1 = (isS nk ko kn kc ln msg k w c).2.1 ∧ MK foc1 fnx1 fis1 nk (isS nk ko kn kc ln msg k w c).2.2.1 (isS nk ko kn kc ln msg k w c).2.2.2.1 (isS nk ko kn kc ln msg k w c).2.2.2.2)) := by
  refine K_start (by decide) rfl rfl (Nat.le_of_ble_eq_true rfl) (fun g A Q hgl C r => ?_)
  subst hgl
  show G g muX5_install E A 0 0 Q [(mm, .inr (7, [.int (cd), .int (nI (nk)), .ref oc, .ref nx, .ref ia, .ref ms, .int (nI (ln)), .int (nI (os)), .ref ot, .long (tp), .ref my, .ref co, .ref bd, .ref bk, .ref oh, .ref rd, .ref mk, .ref rw, .ref ss])), (oc, aI E 272 (foc)), (nx, aI E 17 (fnx)), (ia, aJ E 17 (fis)), (rd, aI E 176 (frd)), (ss, aI E 256 (TB)), (bk, aI E 16 (fbk)), (oh, aI E 16 (foh)), (mk, aI E 16 (fmk)), (rw, aI E 320 (frw)), (ms, aI E 300 (msg))] L F 0 [(0, .ref mm), (1, .int (k)), (2, .int (w)), (3, .long (c))] []
  refine g_aload_n C dX5_install_0 rfl 0 rfl ?_
  refine g_iload_n C dX5_install_1 rfl 1 rfl ?_
  refine g_callV (v := muX5_noKey) (cx := [(mm, .inr (7, [.int (cd), .int (nI (nk)), .ref oc, .ref nx, .ref ia, .ref ms, .int (nI (ln)), .int (nI (os)), .ref ot, .long (tp), .ref my, .ref co, .ref bd, .ref bk, .ref oh, .ref rd, .ref mk, .ref rw, .ref ss]))]) C (k_X5_noKey (gl g) E mm oc nx ia ms ot my co bd bk oh rd mk rw ss cd nk ln os tp k L F ) [0] rfl (by decide) 0 rfl rfl gi_X5_82 hd_X5_noKey ⟨Nat.le_of_ble_eq_true rfl, Nat.le_of_ble_eq_true rfl⟩ rfl rfl (Nat.le_of_ble_eq_true rfl) ⟨Nat.le_of_ble_eq_true rfl, Nat.le_of_ble_eq_true rfl⟩ dX5_install_2 (fun r9 cx9 L9 F9 hp9 hf9 hN9 => ?_)
  obtain ⟨rfl, rfl, rfl, rfl, -⟩ := hp9
  show G g muX5_install E A 0 0 Q [(mm, .inr (7, [.int (nI 0), .int (nI (nk)), .ref oc, .ref nx, .ref ia, .ref ms, .int (nI (ln)), .int (nI (os)), .ref ot, .long (tp), .ref my, .ref co, .ref bd, .ref bk, .ref oh, .ref rd, .ref mk, .ref rw, .ref ss])), (oc, aI E 272 (foc)), (nx, aI E 17 (fnx)), (ia, aJ E 17 (fis)), (rd, aI E 176 (frd)), (ss, aI E 256 (TB)), (bk, aI E 16 (fbk)), (oh, aI E 16 (foh)), (mk, aI E 16 (fmk)), (rw, aI E 320 (frw)), (ms, aI E 300 (msg))] L F 5 [(0, .ref mm), (1, .int (k)), (2, .int (w)), (3, .long (c))] [.int (b2 (kf nk k).isNone)]
  refine g_if_ne (tgt := 16) C dX5_install_5 (by decide) (fun c5 => ?_) (fun c5 => ?_)
  · skip
    have hkf := kf_no (b2_t c5)
    refine g_iconst (v := (-1 : Int32)) C dX5_install_16 (by decide) ?_
    refine g_asi (show (-1) = ((isS nk ko kn kc ln msg k w c).1) from (by unfold isS; simp only [hkf])) ?_
    exact g_iret C r rfl ⟨ln, foc, fnx, fis, frd, fbk, foh, fmk, frw, rfl, rfl, rfl, rfl, by unfold isS; simp only [hkf]; exact ⟨trivial, hMK⟩⟩ rfl nN dX5_install_17
  · skip
    obtain ⟨i, hkf⟩ := kf_ex (b2_f c5)
    obtain ⟨hi, hke⟩ := kf_key hkf hnk
    refine g_aload_n C dX5_install_8 rfl 0 rfl ?_
    refine g_iload_n C dX5_install_9 rfl 2 rfl ?_
    refine g_callV (v := muX5_noKey) (cx := [(mm, .inr (7, [.int (nI 0), .int (nI (nk)), .ref oc, .ref nx, .ref ia, .ref ms, .int (nI (ln)), .int (nI (os)), .ref ot, .long (tp), .ref my, .ref co, .ref bd, .ref bk, .ref oh, .ref rd, .ref mk, .ref rw, .ref ss]))]) C (k_X5_noKey (gl g) E mm oc nx ia ms ot my co bd bk oh rd mk rw ss (nI 0) nk ln os tp w L F ) [0] rfl (by decide) 0 rfl rfl gi_X5_82 hd_X5_noKey ⟨Nat.le_of_ble_eq_true rfl, Nat.le_of_ble_eq_true rfl⟩ rfl rfl (Nat.le_of_ble_eq_true rfl) ⟨Nat.le_of_ble_eq_true rfl, Nat.le_of_ble_eq_true rfl⟩ dX5_install_10 (fun r9 cx9 L9 F9 hp9 hf9 hN9 => ?_)
    obtain ⟨rfl, rfl, rfl, rfl, -⟩ := hp9
    show G g muX5_install E A 0 0 Q [(mm, .inr (7, [.int (nI 0), .int (nI (nk)), .ref oc, .ref nx, .ref ia, .ref ms, .int (nI (ln)), .int (nI (os)), .ref ot, .long (tp), .ref my, .ref co, .ref bd, .ref bk, .ref oh, .ref rd, .ref mk, .ref rw, .ref ss])), (oc, aI E 272 (foc)), (nx, aI E 17 (fnx)), (ia, aJ E 17 (fis)), (rd, aI E 176 (frd)), (ss, aI E 256 (TB)), (bk, aI E 16 (fbk)), (oh, aI E 16 (foh)), (mk, aI E 16 (fmk)), (rw, aI E 320 (frw)), (ms, aI E 300 (msg))] L F 13 [(0, .ref mm), (1, .int (k)), (2, .int (w)), (3, .long (c))] [.int (b2 (kf nk w).isNone)]
    refine g_if_eq (tgt := 18) C dX5_install_13 (by decide) (fun c13 => ?_) (fun c13 => ?_)
    · skip
      obtain ⟨q, hwf⟩ := kf_ex (b2_f c13)
      obtain ⟨hq, hwe⟩ := kf_key hwf hnk
      refine g_lload_n C dX5_install_18 rfl 3 rfl ?_
      refine g_lconst (v := 0) C dX5_install_19 (by decide) ?_
      refine g_lcmp C dX5_install_20 ?_
      refine g_if_ge (tgt := 27) C dX5_install_21 (by decide) (fun c21 => ?_) (fun c21 => ?_)
      · skip
        rw [lg_cmp_ge] at c21
        refine g_aload_n C dX5_install_27 rfl 0 rfl ?_
        refine g_getX C 0 rfl rfl inX5 6 (by decide) m_426 rfl dX5_install_28 ?_
        refine g_bipush (v := nI (24)) C dX5_install_31 (by decide) ?_
        refine g_nicmp_eq (tgt := 39) C dX5_install_33 (by decide) (by omega) (by omega) (fun c33 => ?_) (fun c33 => ?_)
        · skip
          refine g_aload_n C dX5_install_39 rfl 0 rfl ?_
          refine g_iconst (v := nI (0)) C dX5_install_40 (by decide) ?_
          refine g_putX (X' := [(mm, .inr (7, [.int (nI 0), .int (nI (nk)), .ref oc, .ref nx, .ref ia, .ref ms, .int (nI (0)), .int (nI (os)), .ref ot, .long (tp), .ref my, .ref co, .ref bd, .ref bk, .ref oh, .ref rd, .ref mk, .ref rw, .ref ss])), (oc, aI E 272 (foc)), (nx, aI E 17 (fnx)), (ia, aJ E 17 (fis)), (rd, aI E 176 (frd)), (ss, aI E 256 (TB)), (bk, aI E 16 (fbk)), (oh, aI E 16 (foh)), (mk, aI E 16 (fmk)), (rw, aI E 320 (frw)), (ms, aI E 300 (msg))]) C 0 rfl rfl inX5 tyX5 tyX5_ok nmX5 6 (by decide) m_426 rfl rfl rfl (Nat.le_of_ble_eq_true rfl) rfl dX5_install_41 ?_
          refine g_aload_n C dX5_install_44 rfl 0 rfl ?_
          refine g_lload_n C dX5_install_45 rfl 3 rfl ?_
          refine g_bipush (v := nI (8)) C dX5_install_46 (by decide) ?_
          refine g_iconst (v := nI (0)) C dX5_install_48 (by decide) ?_
          refine g_callV (v := muX5_number) (cx := [(mm, .inr (7, [.int (nI 0), .int (nI (nk)), .ref oc, .ref nx, .ref ia, .ref ms, .int (nI (0)), .int (nI (os)), .ref ot, .long (tp), .ref my, .ref co, .ref bd, .ref bk, .ref oh, .ref rd, .ref mk, .ref rw, .ref ss])), (rw, aI E 320 (frw))]) C (k_X5_number (gl g) E mm oc nx ia ms ot my co bd bk oh rd mk rw ss (nI 0) nk 0 os tp frw c 8 0 L F (by omega) (by omega)) [0, 9] rfl (by decide) 0 rfl rfl gi_X5_108 hd_X5_number ⟨Nat.le_of_ble_eq_true rfl, Nat.le_of_ble_eq_true rfl⟩ rfl rfl (Nat.le_of_ble_eq_true rfl) ⟨Nat.le_of_ble_eq_true rfl, Nat.le_of_ble_eq_true rfl⟩ dX5_install_49 (fun r9 cx9 L9 F9 hp9 hf9 hN9 => ?_)
          obtain ⟨w1, rfl, rfl, rfl, rfl, wa1, wb1⟩ := hp9
          show G g muX5_install E A 0 0 Q [(mm, .inr (7, [.int (nI 0), .int (nI (nk)), .ref oc, .ref nx, .ref ia, .ref ms, .int (nI (0)), .int (nI (os)), .ref ot, .long (tp), .ref my, .ref co, .ref bd, .ref bk, .ref oh, .ref rd, .ref mk, .ref rw, .ref ss])), (oc, aI E 272 (foc)), (nx, aI E 17 (fnx)), (ia, aJ E 17 (fis)), (rd, aI E 176 (frd)), (ss, aI E 256 (TB)), (bk, aI E 16 (fbk)), (oh, aI E 16 (foh)), (mk, aI E 16 (fmk)), (rw, aI E 320 (w1)), (ms, aI E 300 (msg))] L F 52 [(0, .ref mm), (1, .int (k)), (2, .int (w)), (3, .long (c))] []
          refine g_iconst (v := nI (0)) C dX5_install_52 (by decide) ?_
          refine g_istore (lv' := [(5, .int (nI (0))), (0, .ref mm), (1, .int (k)), (2, .int (w)), (3, .long (c))]) C dX5_install_53 (by decide) rfl ?_
          have lp55 : ∀ (n55 : Nat) (n : Nat) (f1 : Nat → Int32), (n ≤ 16) → (∀ p, p < 8 + n → f1 p = wrM c msg p) → 17 ≤ n + n55 → G g muX5_install E A 0 0 Q [(mm, .inr (7, [.int (nI 0), .int (nI (nk)), .ref oc, .ref nx, .ref ia, .ref ms, .int (nI (0)), .int (nI (os)), .ref ot, .long (tp), .ref my, .ref co, .ref bd, .ref bk, .ref oh, .ref rd, .ref mk, .ref rw, .ref ss])), (oc, aI E 272 (foc)), (nx, aI E 17 (fnx)), (ia, aJ E 17 (fis)), (rd, aI E 176 (frd)), (ss, aI E 256 (TB)), (bk, aI E 16 (fbk)), (oh, aI E 16 (foh)), (mk, aI E 16 (fmk)), (rw, aI E 320 (f1)), (ms, aI E 300 (msg))] L F 55 [(0, .ref mm), (1, .int (k)), (2, .int (w)), (3, .long (c)), (5, .int (nI (n)))] [] := by
            intro n55
            induction n55 with
            | zero => intro n f1 hn hf hfu55; exact absurd hfu55 (by omega)
            | succ n55 ih55 =>
              intro n f1 hn hf hfu55
              refine g_iload C dX5_install_55 4 rfl ?_
              refine g_bipush (v := nI (16)) C dX5_install_57 (by decide) ?_
              refine g_nicmp_ge (tgt := 85) C dX5_install_59 (by decide) (by omega) (by omega) (fun c59 => ?_) (fun c59 => ?_)
              · skip
                refine g_aload_n C dX5_install_85 rfl 0 rfl ?_
                refine g_bipush (v := nI (16)) C dX5_install_86 (by decide) ?_
                refine g_iload_n C dX5_install_88 rfl 2 rfl ?_
                refine g_asi (show (w) = (nI (q + 1)) from hwe) ?_
                refine g_imul C dX5_install_89 ?_
                refine g_asi (pk_mul _ _) ?_
                refine g_bipush (v := nI (24)) C dX5_install_90 (by decide) ?_
                refine g_callV (v := muX5_codeOf) (cx := [(mm, .inr (7, [.int (nI 0), .int (nI (nk)), .ref oc, .ref nx, .ref ia, .ref ms, .int (nI (0)), .int (nI (os)), .ref ot, .long (tp), .ref my, .ref co, .ref bd, .ref bk, .ref oh, .ref rd, .ref mk, .ref rw, .ref ss])), (oc, aI E 272 (foc)), (rd, aI E 176 (frd)), (ss, aI E 256 (TB)), (bk, aI E 16 (fbk)), (oh, aI E 16 (foh)), (mk, aI E 16 (fmk)), (rw, aI E 320 (f1))]) C (k_X5_codeOf (gl g) E mm oc nx ia ms ot my co bd bk oh rd mk rw ss (nI 0) nk 0 os tp foc frd fbk foh fmk f1 (ko q) (wrM c msg) (16 * (q + 1)) 24 L F (by omega) (fun j hj => ((hMK.1 q hq).1 j hj).1) (fun j hj => ((hMK.1 q hq).1 j hj).2) (by omega) (fun p hp => hf p (by omega)) (wrM_O hmsg c)) [0, 1, 4, 5, 6, 7, 8, 9] rfl (by decide) 0 rfl rfl gi_X5_92 hd_X5_codeOf ⟨Nat.le_of_ble_eq_true rfl, Nat.le_of_ble_eq_true rfl⟩ rfl rfl (Nat.le_of_ble_eq_true rfl) ⟨Nat.le_of_ble_eq_true rfl, Nat.le_of_ble_eq_true rfl⟩ dX5_install_92 (fun r9 cx9 L9 F9 hp9 hf9 hN9 => ?_)
                obtain ⟨fh1, fm1, rfl, rfl, rfl, rfl, -⟩ := hp9
                show G g muX5_install E A 0 0 Q [(mm, .inr (7, [.int (nI 0), .int (nI (nk)), .ref oc, .ref nx, .ref ia, .ref ms, .int (nI (0)), .int (nI (os)), .ref ot, .long (tp), .ref my, .ref co, .ref bd, .ref bk, .ref oh, .ref rd, .ref mk, .ref rw, .ref ss])), (oc, aI E 272 (foc)), (nx, aI E 17 (fnx)), (ia, aJ E 17 (fis)), (rd, aI E 176 (rk (ko q))), (ss, aI E 256 (TB)), (bk, aI E 16 (CMAC (ko q) (wrM c msg) 24)), (oh, aI E 16 (fh1)), (mk, aI E 16 (fm1)), (rw, aI E 320 (f1)), (ms, aI E 300 (msg))] L F 95 [(0, .ref mm), (1, .int (k)), (2, .int (w)), (3, .long (c)), (5, .int (nI (n)))] []
                refine g_aload_n C dX5_install_95 rfl 0 rfl ?_
                refine g_bipush (v := nI (16)) C dX5_install_96 (by decide) ?_
                refine g_callV (v := muX5_fits) (cx := [(mm, .inr (7, [.int (nI 0), .int (nI (nk)), .ref oc, .ref nx, .ref ia, .ref ms, .int (nI (0)), .int (nI (os)), .ref ot, .long (tp), .ref my, .ref co, .ref bd, .ref bk, .ref oh, .ref rd, .ref mk, .ref rw, .ref ss])), (ms, aI E 300 (msg)), (bk, aI E 16 (CMAC (ko q) (wrM c msg) 24))]) C (k_X5_fits (gl g) E mm oc nx ia ms ot my co bd bk oh rd mk rw ss (nI 0) nk 0 os tp msg (CMAC (ko q) (wrM c msg) 24) 16 L F (by omega)) [0, 10, 6] rfl (by decide) 0 rfl rfl gi_X5_116 hd_X5_fits ⟨Nat.le_of_ble_eq_true rfl, Nat.le_of_ble_eq_true rfl⟩ rfl rfl (Nat.le_of_ble_eq_true rfl) ⟨Nat.le_of_ble_eq_true rfl, Nat.le_of_ble_eq_true rfl⟩ dX5_install_98 (fun r9 cx9 L9 F9 hp9 hf9 hN9 => ?_)
                obtain ⟨rfl, rfl, rfl, rfl, -⟩ := hp9
                show G g muX5_install E A 0 0 Q [(mm, .inr (7, [.int (nI 0), .int (nI (nk)), .ref oc, .ref nx, .ref ia, .ref ms, .int (nI (0)), .int (nI (os)), .ref ot, .long (tp), .ref my, .ref co, .ref bd, .ref bk, .ref oh, .ref rd, .ref mk, .ref rw, .ref ss])), (oc, aI E 272 (foc)), (nx, aI E 17 (fnx)), (ia, aJ E 17 (fis)), (rd, aI E 176 (rk (ko q))), (ss, aI E 256 (TB)), (bk, aI E 16 (CMAC (ko q) (wrM c msg) 24)), (oh, aI E 16 (fh1)), (mk, aI E 16 (fm1)), (rw, aI E 320 (f1)), (ms, aI E 300 (msg))] L F 101 [(0, .ref mm), (1, .int (k)), (2, .int (w)), (3, .long (c)), (5, .int (nI (n)))] [.int (b2 (eqN (CMAC (ko q) (wrM c msg) 24) (fun j => msg (16 + j)) 8))]
                refine g_asi (show (b2 (eqN (CMAC (ko q) (wrM c msg) 24) (fun j => msg (16 + j)) 8)) = (b2 (wrB (ko q) c msg)) from rfl) ?_
                refine g_if_eq (tgt := 115) C dX5_install_101 (by decide) (fun c101 => ?_) (fun c101 => ?_)
                · skip
                  have hw9 : ¬ wrB (ko q) c msg = true := by rw [b2_f c101]; exact Bool.false_ne_true
                  refine g_iconst (v := nI (0)) C dX5_install_115 (by decide) ?_
                  refine g_asi (show (nI (0)) = ((isS nk ko kn kc ln msg k w c).1) from (by rw [wr_no hkf hwf c21 c33 (Or.inl hw9)])) ?_
                  exact g_iret C r rfl ⟨0, foc, fnx, fis, rk (ko q), CMAC (ko q) (wrM c msg) 24, fh1, fm1, f1, rfl, rfl, rfl, rfl, by rw [wr_no hkf hwf c21 c33 (Or.inl hw9)]; exact ⟨rfl, hMK⟩⟩ rfl nN dX5_install_116
                · skip
                  have hw9 := b2_t c101
                  refine g_lload_n C dX5_install_104 rfl 3 rfl ?_
                  refine g_aload_n C dX5_install_105 rfl 0 rfl ?_
                  refine g_getX C 0 rfl rfl inX5 4 (by decide) m_424 rfl dX5_install_106 ?_
                  refine g_iload_n C dX5_install_109 rfl 1 rfl ?_
                  refine g_asi (show (k) = (nI (i + 1)) from hke) ?_
                  refine g_lald C 3 rfl (by omega) (by decide) dX5_install_110 ?_
                  refine g_asl (show (fis (i + 1)) = (kc i) from (hMK.1 i hi).2.2) ?_
                  refine g_lcmp C dX5_install_111 ?_
                  refine g_if_gt (tgt := 117) C dX5_install_112 (by decide) (fun c112 => ?_) (fun c112 => ?_)
                  · skip
                    rw [lg_cmp_gt] at c112
                    refine g_iconst (v := nI (0)) C dX5_install_117 (by decide) ?_
                    refine g_istore (lv' := [(5, .int (nI (0))), (0, .ref mm), (1, .int (k)), (2, .int (w)), (3, .long (c))]) C dX5_install_118 (by decide) rfl ?_
                    have lp120 : ∀ (n120 : Nat) (n : Nat) (f2 : Nat → Int32), (n ≤ 16) → (pfx f2 (pneF (fun _ => nI 0) c) n) → 17 ≤ n + n120 → G g muX5_install E A 0 0 Q [(mm, .inr (7, [.int (nI 0), .int (nI (nk)), .ref oc, .ref nx, .ref ia, .ref ms, .int (nI (0)), .int (nI (os)), .ref ot, .long (tp), .ref my, .ref co, .ref bd, .ref bk, .ref oh, .ref rd, .ref mk, .ref rw, .ref ss])), (oc, aI E 272 (foc)), (nx, aI E 17 (fnx)), (ia, aJ E 17 (fis)), (rd, aI E 176 (rk (ko q))), (ss, aI E 256 (TB)), (bk, aI E 16 (f2)), (oh, aI E 16 (fh1)), (mk, aI E 16 (fm1)), (rw, aI E 320 (f1)), (ms, aI E 300 (msg))] L F 120 [(0, .ref mm), (1, .int (k)), (2, .int (w)), (3, .long (c)), (5, .int (nI (n)))] [] := by
                      intro n120
                      induction n120 with
                      | zero => intro n f2 hn hf2 hfu120; exact absurd hfu120 (by omega)
                      | succ n120 ih120 =>
                        intro n f2 hn hf2 hfu120
                        refine g_iload C dX5_install_120 4 rfl ?_
                        refine g_bipush (v := nI (16)) C dX5_install_122 (by decide) ?_
                        refine g_nicmp_ge (tgt := 166) C dX5_install_124 (by decide) (by omega) (by omega) (fun c124 => ?_) (fun c124 => ?_)
                        · skip
                          refine g_cgI (f' := pneF (fun _ => nI 0) c) (X' := [(mm, .inr (7, [.int (nI 0), .int (nI (nk)), .ref oc, .ref nx, .ref ia, .ref ms, .int (nI (0)), .int (nI (os)), .ref ot, .long (tp), .ref my, .ref co, .ref bd, .ref bk, .ref oh, .ref rd, .ref mk, .ref rw, .ref ss])), (oc, aI E 272 (foc)), (nx, aI E 17 (fnx)), (ia, aJ E 17 (fis)), (rd, aI E 176 (rk (ko q))), (ss, aI E 256 (TB)), (bk, aI E 16 (pneF (fun _ => nI 0) c)), (oh, aI E 16 (fh1)), (mk, aI E 16 (fm1)), (rw, aI E 320 (f1)), (ms, aI E 300 (msg))]) 6 rfl (fun j hj => hf2 j (by omega)) rfl ?_
                          refine g_aload_n C dX5_install_166 rfl 0 rfl ?_
                          refine g_bipush (v := nI (16)) C dX5_install_167 (by decide) ?_
                          refine g_iload_n C dX5_install_169 rfl 2 rfl ?_
                          refine g_asi (show (w) = (nI (q + 1)) from hwe) ?_
                          refine g_imul C dX5_install_170 ?_
                          refine g_asi (pk_mul _ _) ?_
                          refine g_callV (v := muX5_cipher) (cx := [(mm, .inr (7, [.int (nI 0), .int (nI (nk)), .ref oc, .ref nx, .ref ia, .ref ms, .int (nI (0)), .int (nI (os)), .ref ot, .long (tp), .ref my, .ref co, .ref bd, .ref bk, .ref oh, .ref rd, .ref mk, .ref rw, .ref ss])), (oc, aI E 272 (foc)), (rd, aI E 176 (rk (ko q))), (ss, aI E 256 (TB)), (bk, aI E 16 (pneF (fun _ => nI 0) c)), (oh, aI E 16 (fh1))]) C (k_X5_cipher (gl g) E mm oc nx ia ms ot my co bd bk oh rd mk rw ss (nI 0) nk 0 os tp foc (rk (ko q)) (pneF (fun _ => nI 0) c) fh1 (ko q) (16 * (q + 1)) L F (by omega) (fun j hj => ((hMK.1 q hq).1 j hj).1) (fun j hj => ((hMK.1 q hq).1 j hj).2) (pneF_O c)) [0, 1, 4, 5, 6, 7] rfl (by decide) 0 rfl rfl gi_X5_76 hd_X5_cipher ⟨Nat.le_of_ble_eq_true rfl, Nat.le_of_ble_eq_true rfl⟩ rfl rfl (Nat.le_of_ble_eq_true rfl) ⟨Nat.le_of_ble_eq_true rfl, Nat.le_of_ble_eq_true rfl⟩ dX5_install_171 (fun r9 cx9 L9 F9 hp9 hf9 hN9 => ?_)
                          obtain ⟨fh2, rfl, rfl, rfl, rfl, -⟩ := hp9
                          show G g muX5_install E A 0 0 Q [(mm, .inr (7, [.int (nI 0), .int (nI (nk)), .ref oc, .ref nx, .ref ia, .ref ms, .int (nI (0)), .int (nI (os)), .ref ot, .long (tp), .ref my, .ref co, .ref bd, .ref bk, .ref oh, .ref rd, .ref mk, .ref rw, .ref ss])), (oc, aI E 272 (foc)), (nx, aI E 17 (fnx)), (ia, aJ E 17 (fis)), (rd, aI E 176 (rk (ko q))), (ss, aI E 256 (TB)), (bk, aI E 16 (ENC (ko q) (pneF (fun _ => nI 0) c))), (oh, aI E 16 (fh2)), (mk, aI E 16 (fm1)), (rw, aI E 320 (f1)), (ms, aI E 300 (msg))] L F 174 [(0, .ref mm), (1, .int (k)), (2, .int (w)), (3, .long (c)), (5, .int (nI (n)))] []
                          refine g_iconst (v := nI (0)) C dX5_install_174 (by decide) ?_
                          refine g_istore (lv' := [(5, .int (nI (0))), (0, .ref mm), (1, .int (k)), (2, .int (w)), (3, .long (c))]) C dX5_install_175 (by decide) rfl ?_
                          have lp177 : ∀ (n177 : Nat) (n : Nat) (f3 : Nat → Int32), (n ≤ 16) → (∀ j, j < n → f3 (16 * (i + 1) + j) = (fun j => msg j ^^^ ENC (ko q) (pneF (fun _ => nI 0) c) j) j) → (∀ p, p < 16 * (i + 1) ∨ 16 * (i + 1) + 16 ≤ p → f3 p = foc p) → 17 ≤ n + n177 → G g muX5_install E A 0 0 Q [(mm, .inr (7, [.int (nI 0), .int (nI (nk)), .ref oc, .ref nx, .ref ia, .ref ms, .int (nI (0)), .int (nI (os)), .ref ot, .long (tp), .ref my, .ref co, .ref bd, .ref bk, .ref oh, .ref rd, .ref mk, .ref rw, .ref ss])), (oc, aI E 272 (f3)), (nx, aI E 17 (fnx)), (ia, aJ E 17 (fis)), (rd, aI E 176 (rk (ko q))), (ss, aI E 256 (TB)), (bk, aI E 16 (ENC (ko q) (pneF (fun _ => nI 0) c))), (oh, aI E 16 (fh2)), (mk, aI E 16 (fm1)), (rw, aI E 320 (f1)), (ms, aI E 300 (msg))] L F 177 [(0, .ref mm), (1, .int (k)), (2, .int (w)), (3, .long (c)), (5, .int (nI (n)))] [] := by
                            intro n177
                            induction n177 with
                            | zero => intro n f3 hn h1 h2 hfu177; exact absurd hfu177 (by omega)
                            | succ n177 ih177 =>
                              intro n f3 hn h1 h2 hfu177
                              refine g_iload C dX5_install_177 4 rfl ?_
                              refine g_bipush (v := nI (16)) C dX5_install_179 (by decide) ?_
                              refine g_nicmp_ge (tgt := 217) C dX5_install_181 (by decide) (by omega) (by omega) (fun c181 => ?_) (fun c181 => ?_)
                              · skip
                                refine g_aload_n C dX5_install_217 rfl 0 rfl ?_
                                refine g_getX C 0 rfl rfl inX5 3 (by decide) m_423 rfl dX5_install_218 ?_
                                refine g_iload_n C dX5_install_221 rfl 1 rfl ?_
                                refine g_asi (show (k) = (nI (i + 1)) from hke) ?_
                                refine g_iconst (v := nI (0)) C dX5_install_222 (by decide) ?_
                                refine g_iast (X' := [(mm, .inr (7, [.int (nI 0), .int (nI (nk)), .ref oc, .ref nx, .ref ia, .ref ms, .int (nI (0)), .int (nI (os)), .ref ot, .long (tp), .ref my, .ref co, .ref bd, .ref bk, .ref oh, .ref rd, .ref mk, .ref rw, .ref ss])), (oc, aI E 272 (f3)), (nx, aI E 17 (upd fnx (i + 1) (nI (0)))), (ia, aJ E 17 (fis)), (rd, aI E 176 (rk (ko q))), (ss, aI E 256 (TB)), (bk, aI E 16 (ENC (ko q) (pneF (fun _ => nI 0) c))), (oh, aI E 16 (fh2)), (mk, aI E 16 (fm1)), (rw, aI E 320 (f1)), (ms, aI E 300 (msg))]) C 2 rfl (by omega) (by decide) rfl dX5_install_223 ?_
                                refine g_aload_n C dX5_install_224 rfl 0 rfl ?_
                                refine g_getX C 0 rfl rfl inX5 4 (by decide) m_424 rfl dX5_install_225 ?_
                                refine g_iload_n C dX5_install_228 rfl 1 rfl ?_
                                refine g_asi (show (k) = (nI (i + 1)) from hke) ?_
                                refine g_lload_n C dX5_install_229 rfl 3 rfl ?_
                                refine g_last (X' := [(mm, .inr (7, [.int (nI 0), .int (nI (nk)), .ref oc, .ref nx, .ref ia, .ref ms, .int (nI (0)), .int (nI (os)), .ref ot, .long (tp), .ref my, .ref co, .ref bd, .ref bk, .ref oh, .ref rd, .ref mk, .ref rw, .ref ss])), (oc, aI E 272 (f3)), (nx, aI E 17 (upd fnx (i + 1) (nI (0)))), (ia, aJ E 17 (vp_updL fis (i + 1) c)), (rd, aI E 176 (rk (ko q))), (ss, aI E 256 (TB)), (bk, aI E 16 (ENC (ko q) (pneF (fun _ => nI 0) c))), (oh, aI E 16 (fh2)), (mk, aI E 16 (fm1)), (rw, aI E 320 (f1)), (ms, aI E 300 (msg))]) C 3 rfl (by omega) (by decide) rfl dX5_install_230 ?_
                                refine g_iconst (v := nI (1)) C dX5_install_231 (by decide) ?_
                                refine g_asi (show (nI (1)) = ((isS nk ko kn kc ln msg k w c).1) from (by rw [wr_yes hkf hwf c21 c33 hw9 c112])) ?_
                                exact g_iret C r rfl ⟨0, f3, upd fnx (i + 1) (nI (0)), vp_updL fis (i + 1) c, rk (ko q), ENC (ko q) (pneF (fun _ => nI 0) c), fh2, fm1, f1, rfl, rfl, rfl, rfl, by rw [wr_yes hkf hwf c21 c33 hw9 c112]; exact ⟨rfl, MK_in hMK hi _ c (fun j hj => ⟨h1 j (by omega), isO_xor (hmsg j (by omega)) (ENC_O (fun p hp => ((hMK.1 q hq).1 p hp).2) (pneF_O c) j hj)⟩) h2⟩⟩ rfl nN dX5_install_232
                              · skip
                                refine g_aload_n C dX5_install_184 rfl 0 rfl ?_
                                refine g_getX C 0 rfl rfl inX5 2 (by decide) m_422 rfl dX5_install_185 ?_
                                refine g_bipush (v := nI (16)) C dX5_install_188 (by decide) ?_
                                refine g_iload_n C dX5_install_190 rfl 1 rfl ?_
                                refine g_asi (show (k) = (nI (i + 1)) from hke) ?_
                                refine g_imul C dX5_install_191 ?_
                                refine g_asi (pk_mul _ _) ?_
                                refine g_iload C dX5_install_192 4 rfl ?_
                                refine g_iadd C dX5_install_194 ?_
                                refine g_asi (nI_add _ _) ?_
                                refine g_aload_n C dX5_install_195 rfl 0 rfl ?_
                                refine g_getX C 0 rfl rfl inX5 5 (by decide) m_425 rfl dX5_install_196 ?_
                                refine g_iload C dX5_install_199 4 rfl ?_
                                refine g_iald C 10 rfl (by omega) (by decide) dX5_install_201 ?_
                                refine g_aload_n C dX5_install_202 rfl 0 rfl ?_
                                refine g_getX C 0 rfl rfl inX5 13 (by decide) m_433 rfl dX5_install_203 ?_
                                refine g_iload C dX5_install_206 4 rfl ?_
                                refine g_iald C 6 rfl (by omega) (by decide) dX5_install_208 ?_
                                refine g_ixor C dX5_install_209 ?_
                                refine g_asi (show ((msg n) ^^^ ((ENC (ko q) (pneF (fun _ => nI 0) c)) n)) = ((fun j => msg j ^^^ ENC (ko q) (pneF (fun _ => nI 0) c) j) n) from rfl) ?_
                                refine g_iast (X' := [(mm, .inr (7, [.int (nI 0), .int (nI (nk)), .ref oc, .ref nx, .ref ia, .ref ms, .int (nI (0)), .int (nI (os)), .ref ot, .long (tp), .ref my, .ref co, .ref bd, .ref bk, .ref oh, .ref rd, .ref mk, .ref rw, .ref ss])), (oc, aI E 272 (upd f3 ((16 * (i + 1)) + n) ((fun j => msg j ^^^ ENC (ko q) (pneF (fun _ => nI 0) c) j) n))), (nx, aI E 17 (fnx)), (ia, aJ E 17 (fis)), (rd, aI E 176 (rk (ko q))), (ss, aI E 256 (TB)), (bk, aI E 16 (ENC (ko q) (pneF (fun _ => nI 0) c))), (oh, aI E 16 (fh2)), (mk, aI E 16 (fm1)), (rw, aI E 320 (f1)), (ms, aI E 300 (msg))]) C 1 rfl (by omega) (by decide) rfl dX5_install_210 ?_
                                refine g_iinc (v := nI (n + 1)) (lv' := [(5, .int (nI (n + 1))), (0, .ref mm), (1, .int (k)), (2, .int (w)), (3, .long (c))]) C dX5_install_211 4 rfl (nI_inc _ 1) (by decide) rfl ?_
                                refine g_goto (tgt := 177) C dX5_install_214 (by decide) ?_
                                refine g_lv [1, 2, 3, 4, 0] rfl ?_
                                exact ih177 (n + 1) (upd f3 ((16 * (i + 1)) + n) ((fun j => msg j ^^^ ENC (ko q) (pneF (fun _ => nI 0) c) j) n)) (by omega) ((ocS c181 h1 h2).1) ((ocS c181 h1 h2).2) (by omega)
                          refine g_lv [1, 2, 3, 4, 0] rfl ?_
                          exact lp177 17 0 foc (Nat.zero_le _) (fun j hj => absurd hj (Nat.not_lt_zero j)) (fun _ _ => rfl) (by omega)
                        · skip
                          refine g_aload_n C dX5_install_127 rfl 0 rfl ?_
                          refine g_getX C 0 rfl rfl inX5 13 (by decide) m_433 rfl dX5_install_128 ?_
                          refine g_iload C dX5_install_131 4 rfl ?_
                          refine g_iload C dX5_install_133 4 rfl ?_
                          refine g_bipush (v := nI (8)) C dX5_install_135 (by decide) ?_
                          refine g_nicmp_ge (tgt := 144) C dX5_install_137 (by decide) (by omega) (by omega) (fun c137 => ?_) (fun c137 => ?_)
                          · skip
                            refine g_lload_n C dX5_install_144 rfl 3 rfl ?_
                            refine g_bipush (v := nI (8)) C dX5_install_145 (by decide) ?_
                            refine g_bipush (v := nI (15)) C dX5_install_147 (by decide) ?_
                            refine g_iload C dX5_install_149 4 rfl ?_
                            refine g_isub C dX5_install_151 ?_
                            refine g_asi (pk_sub (by omega)) ?_
                            refine g_imul C dX5_install_152 ?_
                            refine g_asi (pk_mul _ _) ?_
                            refine g_lshr (v := c >>> ((nI (8 * (15 - n))).toInt64 &&& 63)) C dX5_install_153 rfl ?_
                            refine g_ldc2_w C m_552 dX5_install_154 ?_
                            refine g_land C dX5_install_157 ?_
                            refine g_l2i (v := ((c >>> ((nI (8 * (15 - n))).toInt64 &&& 63)) &&& 255).toInt32) C dX5_install_158 rfl ?_
                            refine g_asi (show (((c >>> ((nI (8 * (15 - n))).toInt64 &&& 63)) &&& 255).toInt32) = (pneF (fun _ => nI 0) c n) from (by unfold pneF; rw [if_neg (by omega)]; rfl)) ?_
                            refine g_iast (X' := [(mm, .inr (7, [.int (nI 0), .int (nI (nk)), .ref oc, .ref nx, .ref ia, .ref ms, .int (nI (0)), .int (nI (os)), .ref ot, .long (tp), .ref my, .ref co, .ref bd, .ref bk, .ref oh, .ref rd, .ref mk, .ref rw, .ref ss])), (oc, aI E 272 (foc)), (nx, aI E 17 (fnx)), (ia, aJ E 17 (fis)), (rd, aI E 176 (rk (ko q))), (ss, aI E 256 (TB)), (bk, aI E 16 (upd f2 n (pneF (fun _ => nI 0) c n))), (oh, aI E 16 (fh1)), (mk, aI E 16 (fm1)), (rw, aI E 320 (f1)), (ms, aI E 300 (msg))]) C 6 rfl (by omega) (by decide) rfl dX5_install_159 ?_
                            refine g_iinc (v := nI (n + 1)) (lv' := [(5, .int (nI (n + 1))), (0, .ref mm), (1, .int (k)), (2, .int (w)), (3, .long (c))]) C dX5_install_160 4 rfl (nI_inc _ 1) (by decide) rfl ?_
                            refine g_goto (tgt := 120) C dX5_install_163 (by decide) ?_
                            refine g_lv [1, 2, 3, 4, 0] rfl ?_
                            exact ih120 (n + 1) (upd f2 n (pneF (fun _ => nI 0) c n)) (by omega) (pfS hf2 rfl) (by omega)
                          · skip
                            refine g_iconst (v := nI (0)) C dX5_install_140 (by decide) ?_
                            refine g_asi (show (nI (0)) = (pneF (fun _ => nI 0) c n) from (by unfold pneF; rw [if_pos c137])) ?_
                            refine g_goto (tgt := 159) C dX5_install_141 (by decide) ?_
                            refine g_iast (X' := [(mm, .inr (7, [.int (nI 0), .int (nI (nk)), .ref oc, .ref nx, .ref ia, .ref ms, .int (nI (0)), .int (nI (os)), .ref ot, .long (tp), .ref my, .ref co, .ref bd, .ref bk, .ref oh, .ref rd, .ref mk, .ref rw, .ref ss])), (oc, aI E 272 (foc)), (nx, aI E 17 (fnx)), (ia, aJ E 17 (fis)), (rd, aI E 176 (rk (ko q))), (ss, aI E 256 (TB)), (bk, aI E 16 (upd f2 n (pneF (fun _ => nI 0) c n))), (oh, aI E 16 (fh1)), (mk, aI E 16 (fm1)), (rw, aI E 320 (f1)), (ms, aI E 300 (msg))]) C 6 rfl (by omega) (by decide) rfl dX5_install_159 ?_
                            refine g_iinc (v := nI (n + 1)) (lv' := [(5, .int (nI (n + 1))), (0, .ref mm), (1, .int (k)), (2, .int (w)), (3, .long (c))]) C dX5_install_160 4 rfl (nI_inc _ 1) (by decide) rfl ?_
                            refine g_goto (tgt := 120) C dX5_install_163 (by decide) ?_
                            refine g_lv [1, 2, 3, 4, 0] rfl ?_
                            exact ih120 (n + 1) (upd f2 n (pneF (fun _ => nI 0) c n)) (by omega) (pfS hf2 rfl) (by omega)
                    refine g_lv [1, 2, 3, 4, 0] rfl ?_
                    exact lp120 17 0 (CMAC (ko q) (wrM c msg) 24) (Nat.zero_le _) pf0 (by omega)
                  · skip
                    rw [lg_cmp_gt] at c112
                    refine g_iconst (v := nI (0)) C dX5_install_115 (by decide) ?_
                    refine g_asi (show (nI (0)) = ((isS nk ko kn kc ln msg k w c).1) from (by rw [wr_no hkf hwf c21 c33 (Or.inr c112)])) ?_
                    exact g_iret C r rfl ⟨0, foc, fnx, fis, rk (ko q), CMAC (ko q) (wrM c msg) 24, fh1, fm1, f1, rfl, rfl, rfl, rfl, by rw [wr_no hkf hwf c21 c33 (Or.inr c112)]; exact ⟨rfl, hMK⟩⟩ rfl nN dX5_install_116
              · skip
                refine g_aload_n C dX5_install_62 rfl 0 rfl ?_
                refine g_getX C 0 rfl rfl inX5 17 (by decide) m_437 rfl dX5_install_63 ?_
                refine g_bipush (v := nI (8)) C dX5_install_66 (by decide) ?_
                refine g_iload C dX5_install_68 4 rfl ?_
                refine g_iadd C dX5_install_70 ?_
                refine g_asi (nI_add _ _) ?_
                refine g_aload_n C dX5_install_71 rfl 0 rfl ?_
                refine g_getX C 0 rfl rfl inX5 5 (by decide) m_425 rfl dX5_install_72 ?_
                refine g_iload C dX5_install_75 4 rfl ?_
                refine g_iald C 10 rfl (by omega) (by decide) dX5_install_77 ?_
                refine g_iast (X' := [(mm, .inr (7, [.int (nI 0), .int (nI (nk)), .ref oc, .ref nx, .ref ia, .ref ms, .int (nI (0)), .int (nI (os)), .ref ot, .long (tp), .ref my, .ref co, .ref bd, .ref bk, .ref oh, .ref rd, .ref mk, .ref rw, .ref ss])), (oc, aI E 272 (foc)), (nx, aI E 17 (fnx)), (ia, aJ E 17 (fis)), (rd, aI E 176 (frd)), (ss, aI E 256 (TB)), (bk, aI E 16 (fbk)), (oh, aI E 16 (foh)), (mk, aI E 16 (fmk)), (rw, aI E 320 (upd f1 (8 + n) (msg n))), (ms, aI E 300 (msg))]) C 9 rfl (by omega) (by decide) rfl dX5_install_78 ?_
                refine g_iinc (v := nI (n + 1)) (lv' := [(5, .int (nI (n + 1))), (0, .ref mm), (1, .int (k)), (2, .int (w)), (3, .long (c))]) C dX5_install_79 4 rfl (nI_inc _ 1) (by decide) rfl ?_
                refine g_goto (tgt := 55) C dX5_install_82 (by decide) ?_
                refine g_lv [1, 2, 3, 4, 0] rfl ?_
                exact ih55 (n + 1) (upd f1 (8 + n) (msg n)) (by omega) (wr_s hf) (by omega)
          refine g_lv [1, 2, 3, 4, 0] rfl ?_
          exact lp55 17 0 w1 (Nat.zero_le _) (wr_0 (w0 := frw) wa1) (by omega)
        · skip
          refine g_bipush (v := (-3 : Int32)) C dX5_install_36 (by decide) ?_
          refine g_asi (show (-3) = ((isS nk ko kn kc ln msg k w c).1) from (by unfold isS; simp only [hkf, hwf, if_pos c21, if_neg c33])) ?_
          exact g_iret C r rfl ⟨ln, foc, fnx, fis, frd, fbk, foh, fmk, frw, rfl, rfl, rfl, rfl, by unfold isS; simp only [hkf, hwf, if_pos c21, if_neg c33]; exact ⟨trivial, hMK⟩⟩ rfl nN dX5_install_38
      · skip
        rw [lg_cmp_ge] at c21
        refine g_bipush (v := (-2 : Int32)) C dX5_install_24 (by decide) ?_
        refine g_asi (show (-2) = ((isS nk ko kn kc ln msg k w c).1) from (by unfold isS; simp only [hkf, hwf, if_neg c21])) ?_
        exact g_iret C r rfl ⟨ln, foc, fnx, fis, frd, fbk, foh, fmk, frw, rfl, rfl, rfl, rfl, by unfold isS; simp only [hkf, hwf, if_neg c21]; exact ⟨trivial, hMK⟩⟩ rfl nN dX5_install_26
    · skip
      have hwf := kf_no (b2_t c13)
      refine g_iconst (v := (-1 : Int32)) C dX5_install_16 (by decide) ?_
      refine g_asi (show (-1) = ((isS nk ko kn kc ln msg k w c).1) from (by unfold isS; simp only [hkf, hwf])) ?_
      exact g_iret C r rfl ⟨ln, foc, fnx, fis, frd, fbk, foh, fmk, frw, rfl, rfl, rfl, rfl, by unfold isS; simp only [hkf, hwf]; exact ⟨trivial, hMK⟩⟩ rfl nN dX5_install_17
abbrev muX5_init : Mu := (cX5_init, 2, RX5, none, "<init>", 2, 14, 2657, 47)
theorem hd_X5_init : yX5_init.cls = RX5 ∧ yX5_init.cls ≠ "java/lang/invoke/MethodHandle" ∧ yX5_init.cls ≠ "java/lang/invoke/VarHandle" ∧ (parseMethodDescriptor yX5_init.desc).map (fun d => d.parameters.length) = some 0 := by decide +kernel
set_option maxHeartbeats 4000000 in
set_option maxRecDepth 100000 in
theorem k_X5_init (l : Launch) (E : Ev) (mm : Nat) (L : List Nat) (F : Nat → va_E)  : KC l E yX5_init muX5_init [.ref mm] [(mm, .inr (7, [.int (0), .int (0), .null, .null, .null, .null, .int (0), .int (0), .null, .long (0), .null, .null, .null, .null, .null, .null, .null, .null, .null]))] L F (fun r8 cx8 L8 F8 => ∃ (oc nx ia ms ot my co bd bk oh rd mk rw ss : Nat), r8 = none ∧ cx8 = [(mm, .inr (7, [.int (0), .int (0), .ref oc, .ref nx, .ref ia, .ref ms, .int (0), .int (0), .ref ot, .long (0), .ref my, .ref co, .ref bd, .ref bk, .ref oh, .ref rd, .ref mk, .ref rw, .ref ss]))] ∧ L ++ [ss] ++ [rw] ++ [mk] ++ [rd] ++ [oh] ++ [bk] ++ [bd] ++ [co] ++ [my] ++ [ot] ++ [ms] ++ [ia] ++ [nx] ++ [oc] = L8 ∧ va_up (va_up (va_up (va_up (va_up (va_up (va_up (va_up (va_up (va_up (va_up (va_up (va_up (va_up F ss (aI E 256 (TB))) rw (aI E 320 (fun _ => 0))) mk (aI E 16 (fun _ => 0))) rd (aI E 176 (fun _ => 0))) oh (aI E 16 (fun _ => 0))) bk (aI E 16 (fun _ => 0))) bd (aI E 65 (fun _ => 0))) co (aJ E 65 (fun _ => 0))) my (aZ E 1105 (fun _ => 0))) ot (aI E 16 (fun _ => 0))) ms (aI E 300 (fun _ => 0))) ia (aJ E 17 (fun _ => 0))) nx (aI E 17 (fun _ => 0))) oc (aI E 272 (fun _ => 0)) = F8 ∧ (True)) := by
  refine K_start (by decide) rfl rfl (Nat.le_of_ble_eq_true rfl) (fun g A Q hgl C r => ?_)
  subst hgl
  show G g muX5_init E A 0 0 Q [(mm, .inr (7, [.int (0), .int (0), .null, .null, .null, .null, .int (0), .int (0), .null, .long (0), .null, .null, .null, .null, .null, .null, .null, .null, .null]))] L F 0 [(0, .ref mm)] []
  refine g_aload_n C dX5_init_0 rfl 0 rfl ?_
  refine g_obj C m_413 m_22 m_23 (by decide) (Nat.le_of_ble_eq_true rfl) dX5_init_1 ?_
  refine g_aload_n C dX5_init_4 rfl 0 rfl ?_
  refine g_sipush (v := nI (272)) C dX5_init_5 (by decide) ?_
  refine g_newI C 272 m_41 (by decide) (by decide) (by decide) (by decide) (by decide) dX5_init_8 (fun oc => ?_)
  show G g muX5_init E A (0 + 1) (0 + 272) Q [(mm, .inr (7, [.int (0), .int (0), .null, .null, .null, .null, .int (0), .int (0), .null, .long (0), .null, .null, .null, .null, .null, .null, .null, .null, .null])), (oc, aI E 272 (fun _ => 0))] L F 10 [(0, .ref mm)] [.ref oc, .ref mm]
  refine g_putF (X' := [(mm, .inr (7, [.int (0), .int (0), .ref oc, .null, .null, .null, .int (0), .int (0), .null, .long (0), .null, .null, .null, .null, .null, .null, .null, .null, .null])), (oc, aI E 272 (fun _ => 0))]) C 0 rfl rfl inX5 tyX5 tyX5_ok nmX5 2 (by decide) m_422 rfl rfl rfl rfl rfl (Nat.le_of_ble_eq_true rfl) rfl dX5_init_10 ?_
  refine g_aload_n C dX5_init_13 rfl 0 rfl ?_
  refine g_bipush (v := nI (17)) C dX5_init_14 (by decide) ?_
  refine g_newI C 17 m_41 (by decide) (by decide) (by decide) (by decide) (by decide) dX5_init_16 (fun nx => ?_)
  show G g muX5_init E A (0 + 1 + 1) (0 + 272 + 17) Q [(mm, .inr (7, [.int (0), .int (0), .ref oc, .null, .null, .null, .int (0), .int (0), .null, .long (0), .null, .null, .null, .null, .null, .null, .null, .null, .null])), (oc, aI E 272 (fun _ => 0)), (nx, aI E 17 (fun _ => 0))] L F 18 [(0, .ref mm)] [.ref nx, .ref mm]
  refine g_putF (X' := [(mm, .inr (7, [.int (0), .int (0), .ref oc, .ref nx, .null, .null, .int (0), .int (0), .null, .long (0), .null, .null, .null, .null, .null, .null, .null, .null, .null])), (oc, aI E 272 (fun _ => 0)), (nx, aI E 17 (fun _ => 0))]) C 0 rfl rfl inX5 tyX5 tyX5_ok nmX5 3 (by decide) m_423 rfl rfl rfl rfl rfl (Nat.le_of_ble_eq_true rfl) rfl dX5_init_18 ?_
  refine g_aload_n C dX5_init_21 rfl 0 rfl ?_
  refine g_bipush (v := nI (17)) C dX5_init_22 (by decide) ?_
  refine g_newJ C 17 m_478 (by decide) (by decide) (by decide) (by decide) (by decide) dX5_init_24 (fun ia => ?_)
  show G g muX5_init E A (0 + 1 + 1 + 1) (0 + 272 + 17 + 17) Q [(mm, .inr (7, [.int (0), .int (0), .ref oc, .ref nx, .null, .null, .int (0), .int (0), .null, .long (0), .null, .null, .null, .null, .null, .null, .null, .null, .null])), (oc, aI E 272 (fun _ => 0)), (nx, aI E 17 (fun _ => 0)), (ia, aJ E 17 (fun _ => 0))] L F 26 [(0, .ref mm)] [.ref ia, .ref mm]
  refine g_putF (X' := [(mm, .inr (7, [.int (0), .int (0), .ref oc, .ref nx, .ref ia, .null, .int (0), .int (0), .null, .long (0), .null, .null, .null, .null, .null, .null, .null, .null, .null])), (oc, aI E 272 (fun _ => 0)), (nx, aI E 17 (fun _ => 0)), (ia, aJ E 17 (fun _ => 0))]) C 0 rfl rfl inX5 tyX5 tyX5_ok nmX5 4 (by decide) m_424 rfl rfl rfl rfl rfl (Nat.le_of_ble_eq_true rfl) rfl dX5_init_26 ?_
  refine g_aload_n C dX5_init_29 rfl 0 rfl ?_
  refine g_sipush (v := nI (300)) C dX5_init_30 (by decide) ?_
  refine g_newI C 300 m_41 (by decide) (by decide) (by decide) (by decide) (by decide) dX5_init_33 (fun ms => ?_)
  show G g muX5_init E A (0 + 1 + 1 + 1 + 1) (0 + 272 + 17 + 17 + 300) Q [(mm, .inr (7, [.int (0), .int (0), .ref oc, .ref nx, .ref ia, .null, .int (0), .int (0), .null, .long (0), .null, .null, .null, .null, .null, .null, .null, .null, .null])), (oc, aI E 272 (fun _ => 0)), (nx, aI E 17 (fun _ => 0)), (ia, aJ E 17 (fun _ => 0)), (ms, aI E 300 (fun _ => 0))] L F 35 [(0, .ref mm)] [.ref ms, .ref mm]
  refine g_putF (X' := [(mm, .inr (7, [.int (0), .int (0), .ref oc, .ref nx, .ref ia, .ref ms, .int (0), .int (0), .null, .long (0), .null, .null, .null, .null, .null, .null, .null, .null, .null])), (oc, aI E 272 (fun _ => 0)), (nx, aI E 17 (fun _ => 0)), (ia, aJ E 17 (fun _ => 0)), (ms, aI E 300 (fun _ => 0))]) C 0 rfl rfl inX5 tyX5 tyX5_ok nmX5 5 (by decide) m_425 rfl rfl rfl rfl rfl (Nat.le_of_ble_eq_true rfl) rfl dX5_init_35 ?_
  refine g_aload_n C dX5_init_38 rfl 0 rfl ?_
  refine g_bipush (v := nI (16)) C dX5_init_39 (by decide) ?_
  refine g_newI C 16 m_41 (by decide) (by decide) (by decide) (by decide) (by decide) dX5_init_41 (fun ot => ?_)
  show G g muX5_init E A (0 + 1 + 1 + 1 + 1 + 1) (0 + 272 + 17 + 17 + 300 + 16) Q [(mm, .inr (7, [.int (0), .int (0), .ref oc, .ref nx, .ref ia, .ref ms, .int (0), .int (0), .null, .long (0), .null, .null, .null, .null, .null, .null, .null, .null, .null])), (oc, aI E 272 (fun _ => 0)), (nx, aI E 17 (fun _ => 0)), (ia, aJ E 17 (fun _ => 0)), (ms, aI E 300 (fun _ => 0)), (ot, aI E 16 (fun _ => 0))] L F 43 [(0, .ref mm)] [.ref ot, .ref mm]
  refine g_putF (X' := [(mm, .inr (7, [.int (0), .int (0), .ref oc, .ref nx, .ref ia, .ref ms, .int (0), .int (0), .ref ot, .long (0), .null, .null, .null, .null, .null, .null, .null, .null, .null])), (oc, aI E 272 (fun _ => 0)), (nx, aI E 17 (fun _ => 0)), (ia, aJ E 17 (fun _ => 0)), (ms, aI E 300 (fun _ => 0)), (ot, aI E 16 (fun _ => 0))]) C 0 rfl rfl inX5 tyX5 tyX5_ok nmX5 8 (by decide) m_428 rfl rfl rfl rfl rfl (Nat.le_of_ble_eq_true rfl) rfl dX5_init_43 ?_
  refine g_aload_n C dX5_init_46 rfl 0 rfl ?_
  refine g_sipush (v := nI (1105)) C dX5_init_47 (by decide) ?_
  refine g_newZ C 1105 m_479 (by decide) (by decide) (by decide) (by decide) (by decide) dX5_init_50 (fun my => ?_)
  show G g muX5_init E A (0 + 1 + 1 + 1 + 1 + 1 + 1) (0 + 272 + 17 + 17 + 300 + 16 + 1105) Q [(mm, .inr (7, [.int (0), .int (0), .ref oc, .ref nx, .ref ia, .ref ms, .int (0), .int (0), .ref ot, .long (0), .null, .null, .null, .null, .null, .null, .null, .null, .null])), (oc, aI E 272 (fun _ => 0)), (nx, aI E 17 (fun _ => 0)), (ia, aJ E 17 (fun _ => 0)), (ms, aI E 300 (fun _ => 0)), (ot, aI E 16 (fun _ => 0)), (my, aZ E 1105 (fun _ => 0))] L F 52 [(0, .ref mm)] [.ref my, .ref mm]
  refine g_putF (X' := [(mm, .inr (7, [.int (0), .int (0), .ref oc, .ref nx, .ref ia, .ref ms, .int (0), .int (0), .ref ot, .long (0), .ref my, .null, .null, .null, .null, .null, .null, .null, .null])), (oc, aI E 272 (fun _ => 0)), (nx, aI E 17 (fun _ => 0)), (ia, aJ E 17 (fun _ => 0)), (ms, aI E 300 (fun _ => 0)), (ot, aI E 16 (fun _ => 0)), (my, aZ E 1105 (fun _ => 0))]) C 0 rfl rfl inX5 tyX5 tyX5_ok nmX5 10 (by decide) m_430 rfl rfl rfl rfl rfl (Nat.le_of_ble_eq_true rfl) rfl dX5_init_52 ?_
  refine g_aload_n C dX5_init_55 rfl 0 rfl ?_
  refine g_bipush (v := nI (65)) C dX5_init_56 (by decide) ?_
  refine g_newJ C 65 m_478 (by decide) (by decide) (by decide) (by decide) (by decide) dX5_init_58 (fun co => ?_)
  show G g muX5_init E A (0 + 1 + 1 + 1 + 1 + 1 + 1 + 1) (0 + 272 + 17 + 17 + 300 + 16 + 1105 + 65) Q [(mm, .inr (7, [.int (0), .int (0), .ref oc, .ref nx, .ref ia, .ref ms, .int (0), .int (0), .ref ot, .long (0), .ref my, .null, .null, .null, .null, .null, .null, .null, .null])), (oc, aI E 272 (fun _ => 0)), (nx, aI E 17 (fun _ => 0)), (ia, aJ E 17 (fun _ => 0)), (ms, aI E 300 (fun _ => 0)), (ot, aI E 16 (fun _ => 0)), (my, aZ E 1105 (fun _ => 0)), (co, aJ E 65 (fun _ => 0))] L F 60 [(0, .ref mm)] [.ref co, .ref mm]
  refine g_putF (X' := [(mm, .inr (7, [.int (0), .int (0), .ref oc, .ref nx, .ref ia, .ref ms, .int (0), .int (0), .ref ot, .long (0), .ref my, .ref co, .null, .null, .null, .null, .null, .null, .null])), (oc, aI E 272 (fun _ => 0)), (nx, aI E 17 (fun _ => 0)), (ia, aJ E 17 (fun _ => 0)), (ms, aI E 300 (fun _ => 0)), (ot, aI E 16 (fun _ => 0)), (my, aZ E 1105 (fun _ => 0)), (co, aJ E 65 (fun _ => 0))]) C 0 rfl rfl inX5 tyX5 tyX5_ok nmX5 11 (by decide) m_431 rfl rfl rfl rfl rfl (Nat.le_of_ble_eq_true rfl) rfl dX5_init_60 ?_
  refine g_aload_n C dX5_init_63 rfl 0 rfl ?_
  refine g_bipush (v := nI (65)) C dX5_init_64 (by decide) ?_
  refine g_newI C 65 m_41 (by decide) (by decide) (by decide) (by decide) (by decide) dX5_init_66 (fun bd => ?_)
  show G g muX5_init E A (0 + 1 + 1 + 1 + 1 + 1 + 1 + 1 + 1) (0 + 272 + 17 + 17 + 300 + 16 + 1105 + 65 + 65) Q [(mm, .inr (7, [.int (0), .int (0), .ref oc, .ref nx, .ref ia, .ref ms, .int (0), .int (0), .ref ot, .long (0), .ref my, .ref co, .null, .null, .null, .null, .null, .null, .null])), (oc, aI E 272 (fun _ => 0)), (nx, aI E 17 (fun _ => 0)), (ia, aJ E 17 (fun _ => 0)), (ms, aI E 300 (fun _ => 0)), (ot, aI E 16 (fun _ => 0)), (my, aZ E 1105 (fun _ => 0)), (co, aJ E 65 (fun _ => 0)), (bd, aI E 65 (fun _ => 0))] L F 68 [(0, .ref mm)] [.ref bd, .ref mm]
  refine g_putF (X' := [(mm, .inr (7, [.int (0), .int (0), .ref oc, .ref nx, .ref ia, .ref ms, .int (0), .int (0), .ref ot, .long (0), .ref my, .ref co, .ref bd, .null, .null, .null, .null, .null, .null])), (oc, aI E 272 (fun _ => 0)), (nx, aI E 17 (fun _ => 0)), (ia, aJ E 17 (fun _ => 0)), (ms, aI E 300 (fun _ => 0)), (ot, aI E 16 (fun _ => 0)), (my, aZ E 1105 (fun _ => 0)), (co, aJ E 65 (fun _ => 0)), (bd, aI E 65 (fun _ => 0))]) C 0 rfl rfl inX5 tyX5 tyX5_ok nmX5 12 (by decide) m_432 rfl rfl rfl rfl rfl (Nat.le_of_ble_eq_true rfl) rfl dX5_init_68 ?_
  refine g_aload_n C dX5_init_71 rfl 0 rfl ?_
  refine g_bipush (v := nI (16)) C dX5_init_72 (by decide) ?_
  refine g_newI C 16 m_41 (by decide) (by decide) (by decide) (by decide) (by decide) dX5_init_74 (fun bk => ?_)
  show G g muX5_init E A (0 + 1 + 1 + 1 + 1 + 1 + 1 + 1 + 1 + 1) (0 + 272 + 17 + 17 + 300 + 16 + 1105 + 65 + 65 + 16) Q [(mm, .inr (7, [.int (0), .int (0), .ref oc, .ref nx, .ref ia, .ref ms, .int (0), .int (0), .ref ot, .long (0), .ref my, .ref co, .ref bd, .null, .null, .null, .null, .null, .null])), (oc, aI E 272 (fun _ => 0)), (nx, aI E 17 (fun _ => 0)), (ia, aJ E 17 (fun _ => 0)), (ms, aI E 300 (fun _ => 0)), (ot, aI E 16 (fun _ => 0)), (my, aZ E 1105 (fun _ => 0)), (co, aJ E 65 (fun _ => 0)), (bd, aI E 65 (fun _ => 0)), (bk, aI E 16 (fun _ => 0))] L F 76 [(0, .ref mm)] [.ref bk, .ref mm]
  refine g_putF (X' := [(mm, .inr (7, [.int (0), .int (0), .ref oc, .ref nx, .ref ia, .ref ms, .int (0), .int (0), .ref ot, .long (0), .ref my, .ref co, .ref bd, .ref bk, .null, .null, .null, .null, .null])), (oc, aI E 272 (fun _ => 0)), (nx, aI E 17 (fun _ => 0)), (ia, aJ E 17 (fun _ => 0)), (ms, aI E 300 (fun _ => 0)), (ot, aI E 16 (fun _ => 0)), (my, aZ E 1105 (fun _ => 0)), (co, aJ E 65 (fun _ => 0)), (bd, aI E 65 (fun _ => 0)), (bk, aI E 16 (fun _ => 0))]) C 0 rfl rfl inX5 tyX5 tyX5_ok nmX5 13 (by decide) m_433 rfl rfl rfl rfl rfl (Nat.le_of_ble_eq_true rfl) rfl dX5_init_76 ?_
  refine g_aload_n C dX5_init_79 rfl 0 rfl ?_
  refine g_bipush (v := nI (16)) C dX5_init_80 (by decide) ?_
  refine g_newI C 16 m_41 (by decide) (by decide) (by decide) (by decide) (by decide) dX5_init_82 (fun oh => ?_)
  show G g muX5_init E A (0 + 1 + 1 + 1 + 1 + 1 + 1 + 1 + 1 + 1 + 1) (0 + 272 + 17 + 17 + 300 + 16 + 1105 + 65 + 65 + 16 + 16) Q [(mm, .inr (7, [.int (0), .int (0), .ref oc, .ref nx, .ref ia, .ref ms, .int (0), .int (0), .ref ot, .long (0), .ref my, .ref co, .ref bd, .ref bk, .null, .null, .null, .null, .null])), (oc, aI E 272 (fun _ => 0)), (nx, aI E 17 (fun _ => 0)), (ia, aJ E 17 (fun _ => 0)), (ms, aI E 300 (fun _ => 0)), (ot, aI E 16 (fun _ => 0)), (my, aZ E 1105 (fun _ => 0)), (co, aJ E 65 (fun _ => 0)), (bd, aI E 65 (fun _ => 0)), (bk, aI E 16 (fun _ => 0)), (oh, aI E 16 (fun _ => 0))] L F 84 [(0, .ref mm)] [.ref oh, .ref mm]
  refine g_putF (X' := [(mm, .inr (7, [.int (0), .int (0), .ref oc, .ref nx, .ref ia, .ref ms, .int (0), .int (0), .ref ot, .long (0), .ref my, .ref co, .ref bd, .ref bk, .ref oh, .null, .null, .null, .null])), (oc, aI E 272 (fun _ => 0)), (nx, aI E 17 (fun _ => 0)), (ia, aJ E 17 (fun _ => 0)), (ms, aI E 300 (fun _ => 0)), (ot, aI E 16 (fun _ => 0)), (my, aZ E 1105 (fun _ => 0)), (co, aJ E 65 (fun _ => 0)), (bd, aI E 65 (fun _ => 0)), (bk, aI E 16 (fun _ => 0)), (oh, aI E 16 (fun _ => 0))]) C 0 rfl rfl inX5 tyX5 tyX5_ok nmX5 14 (by decide) m_434 rfl rfl rfl rfl rfl (Nat.le_of_ble_eq_true rfl) rfl dX5_init_84 ?_
  refine g_aload_n C dX5_init_87 rfl 0 rfl ?_
  refine g_sipush (v := nI (176)) C dX5_init_88 (by decide) ?_
  refine g_newI C 176 m_41 (by decide) (by decide) (by decide) (by decide) (by decide) dX5_init_91 (fun rd => ?_)
  show G g muX5_init E A (0 + 1 + 1 + 1 + 1 + 1 + 1 + 1 + 1 + 1 + 1 + 1) (0 + 272 + 17 + 17 + 300 + 16 + 1105 + 65 + 65 + 16 + 16 + 176) Q [(mm, .inr (7, [.int (0), .int (0), .ref oc, .ref nx, .ref ia, .ref ms, .int (0), .int (0), .ref ot, .long (0), .ref my, .ref co, .ref bd, .ref bk, .ref oh, .null, .null, .null, .null])), (oc, aI E 272 (fun _ => 0)), (nx, aI E 17 (fun _ => 0)), (ia, aJ E 17 (fun _ => 0)), (ms, aI E 300 (fun _ => 0)), (ot, aI E 16 (fun _ => 0)), (my, aZ E 1105 (fun _ => 0)), (co, aJ E 65 (fun _ => 0)), (bd, aI E 65 (fun _ => 0)), (bk, aI E 16 (fun _ => 0)), (oh, aI E 16 (fun _ => 0)), (rd, aI E 176 (fun _ => 0))] L F 93 [(0, .ref mm)] [.ref rd, .ref mm]
  refine g_putF (X' := [(mm, .inr (7, [.int (0), .int (0), .ref oc, .ref nx, .ref ia, .ref ms, .int (0), .int (0), .ref ot, .long (0), .ref my, .ref co, .ref bd, .ref bk, .ref oh, .ref rd, .null, .null, .null])), (oc, aI E 272 (fun _ => 0)), (nx, aI E 17 (fun _ => 0)), (ia, aJ E 17 (fun _ => 0)), (ms, aI E 300 (fun _ => 0)), (ot, aI E 16 (fun _ => 0)), (my, aZ E 1105 (fun _ => 0)), (co, aJ E 65 (fun _ => 0)), (bd, aI E 65 (fun _ => 0)), (bk, aI E 16 (fun _ => 0)), (oh, aI E 16 (fun _ => 0)), (rd, aI E 176 (fun _ => 0))]) C 0 rfl rfl inX5 tyX5 tyX5_ok nmX5 15 (by decide) m_435 rfl rfl rfl rfl rfl (Nat.le_of_ble_eq_true rfl) rfl dX5_init_93 ?_
  refine g_aload_n C dX5_init_96 rfl 0 rfl ?_
  refine g_bipush (v := nI (16)) C dX5_init_97 (by decide) ?_
  refine g_newI C 16 m_41 (by decide) (by decide) (by decide) (by decide) (by decide) dX5_init_99 (fun mk => ?_)
  show G g muX5_init E A (0 + 1 + 1 + 1 + 1 + 1 + 1 + 1 + 1 + 1 + 1 + 1 + 1) (0 + 272 + 17 + 17 + 300 + 16 + 1105 + 65 + 65 + 16 + 16 + 176 + 16) Q [(mm, .inr (7, [.int (0), .int (0), .ref oc, .ref nx, .ref ia, .ref ms, .int (0), .int (0), .ref ot, .long (0), .ref my, .ref co, .ref bd, .ref bk, .ref oh, .ref rd, .null, .null, .null])), (oc, aI E 272 (fun _ => 0)), (nx, aI E 17 (fun _ => 0)), (ia, aJ E 17 (fun _ => 0)), (ms, aI E 300 (fun _ => 0)), (ot, aI E 16 (fun _ => 0)), (my, aZ E 1105 (fun _ => 0)), (co, aJ E 65 (fun _ => 0)), (bd, aI E 65 (fun _ => 0)), (bk, aI E 16 (fun _ => 0)), (oh, aI E 16 (fun _ => 0)), (rd, aI E 176 (fun _ => 0)), (mk, aI E 16 (fun _ => 0))] L F 101 [(0, .ref mm)] [.ref mk, .ref mm]
  refine g_putF (X' := [(mm, .inr (7, [.int (0), .int (0), .ref oc, .ref nx, .ref ia, .ref ms, .int (0), .int (0), .ref ot, .long (0), .ref my, .ref co, .ref bd, .ref bk, .ref oh, .ref rd, .ref mk, .null, .null])), (oc, aI E 272 (fun _ => 0)), (nx, aI E 17 (fun _ => 0)), (ia, aJ E 17 (fun _ => 0)), (ms, aI E 300 (fun _ => 0)), (ot, aI E 16 (fun _ => 0)), (my, aZ E 1105 (fun _ => 0)), (co, aJ E 65 (fun _ => 0)), (bd, aI E 65 (fun _ => 0)), (bk, aI E 16 (fun _ => 0)), (oh, aI E 16 (fun _ => 0)), (rd, aI E 176 (fun _ => 0)), (mk, aI E 16 (fun _ => 0))]) C 0 rfl rfl inX5 tyX5 tyX5_ok nmX5 16 (by decide) m_436 rfl rfl rfl rfl rfl (Nat.le_of_ble_eq_true rfl) rfl dX5_init_101 ?_
  refine g_aload_n C dX5_init_104 rfl 0 rfl ?_
  refine g_sipush (v := nI (320)) C dX5_init_105 (by decide) ?_
  refine g_newI C 320 m_41 (by decide) (by decide) (by decide) (by decide) (by decide) dX5_init_108 (fun rw => ?_)
  show G g muX5_init E A (0 + 1 + 1 + 1 + 1 + 1 + 1 + 1 + 1 + 1 + 1 + 1 + 1 + 1) (0 + 272 + 17 + 17 + 300 + 16 + 1105 + 65 + 65 + 16 + 16 + 176 + 16 + 320) Q [(mm, .inr (7, [.int (0), .int (0), .ref oc, .ref nx, .ref ia, .ref ms, .int (0), .int (0), .ref ot, .long (0), .ref my, .ref co, .ref bd, .ref bk, .ref oh, .ref rd, .ref mk, .null, .null])), (oc, aI E 272 (fun _ => 0)), (nx, aI E 17 (fun _ => 0)), (ia, aJ E 17 (fun _ => 0)), (ms, aI E 300 (fun _ => 0)), (ot, aI E 16 (fun _ => 0)), (my, aZ E 1105 (fun _ => 0)), (co, aJ E 65 (fun _ => 0)), (bd, aI E 65 (fun _ => 0)), (bk, aI E 16 (fun _ => 0)), (oh, aI E 16 (fun _ => 0)), (rd, aI E 176 (fun _ => 0)), (mk, aI E 16 (fun _ => 0)), (rw, aI E 320 (fun _ => 0))] L F 110 [(0, .ref mm)] [.ref rw, .ref mm]
  refine g_putF (X' := [(mm, .inr (7, [.int (0), .int (0), .ref oc, .ref nx, .ref ia, .ref ms, .int (0), .int (0), .ref ot, .long (0), .ref my, .ref co, .ref bd, .ref bk, .ref oh, .ref rd, .ref mk, .ref rw, .null])), (oc, aI E 272 (fun _ => 0)), (nx, aI E 17 (fun _ => 0)), (ia, aJ E 17 (fun _ => 0)), (ms, aI E 300 (fun _ => 0)), (ot, aI E 16 (fun _ => 0)), (my, aZ E 1105 (fun _ => 0)), (co, aJ E 65 (fun _ => 0)), (bd, aI E 65 (fun _ => 0)), (bk, aI E 16 (fun _ => 0)), (oh, aI E 16 (fun _ => 0)), (rd, aI E 176 (fun _ => 0)), (mk, aI E 16 (fun _ => 0)), (rw, aI E 320 (fun _ => 0))]) C 0 rfl rfl inX5 tyX5 tyX5_ok nmX5 17 (by decide) m_437 rfl rfl rfl rfl rfl (Nat.le_of_ble_eq_true rfl) rfl dX5_init_110 ?_
  refine g_aload_n C dX5_init_113 rfl 0 rfl ?_
  refine g_sipush (v := nI (256)) C dX5_init_114 (by decide) ?_
  refine g_newI C 256 m_41 (by decide) (by decide) (by decide) (by decide) (by decide) dX5_init_117 (fun ss => ?_)
  show G g muX5_init E A (0 + 1 + 1 + 1 + 1 + 1 + 1 + 1 + 1 + 1 + 1 + 1 + 1 + 1 + 1) (0 + 272 + 17 + 17 + 300 + 16 + 1105 + 65 + 65 + 16 + 16 + 176 + 16 + 320 + 256) Q [(mm, .inr (7, [.int (0), .int (0), .ref oc, .ref nx, .ref ia, .ref ms, .int (0), .int (0), .ref ot, .long (0), .ref my, .ref co, .ref bd, .ref bk, .ref oh, .ref rd, .ref mk, .ref rw, .null])), (oc, aI E 272 (fun _ => 0)), (nx, aI E 17 (fun _ => 0)), (ia, aJ E 17 (fun _ => 0)), (ms, aI E 300 (fun _ => 0)), (ot, aI E 16 (fun _ => 0)), (my, aZ E 1105 (fun _ => 0)), (co, aJ E 65 (fun _ => 0)), (bd, aI E 65 (fun _ => 0)), (bk, aI E 16 (fun _ => 0)), (oh, aI E 16 (fun _ => 0)), (rd, aI E 176 (fun _ => 0)), (mk, aI E 16 (fun _ => 0)), (rw, aI E 320 (fun _ => 0)), (ss, aI E 256 (fun _ => 0))] L F 119 [(0, .ref mm)] [.ref ss, .ref mm]
  refine g_putF (X' := [(mm, .inr (7, [.int (0), .int (0), .ref oc, .ref nx, .ref ia, .ref ms, .int (0), .int (0), .ref ot, .long (0), .ref my, .ref co, .ref bd, .ref bk, .ref oh, .ref rd, .ref mk, .ref rw, .ref ss])), (oc, aI E 272 (fun _ => 0)), (nx, aI E 17 (fun _ => 0)), (ia, aJ E 17 (fun _ => 0)), (ms, aI E 300 (fun _ => 0)), (ot, aI E 16 (fun _ => 0)), (my, aZ E 1105 (fun _ => 0)), (co, aJ E 65 (fun _ => 0)), (bd, aI E 65 (fun _ => 0)), (bk, aI E 16 (fun _ => 0)), (oh, aI E 16 (fun _ => 0)), (rd, aI E 176 (fun _ => 0)), (mk, aI E 16 (fun _ => 0)), (rw, aI E 320 (fun _ => 0)), (ss, aI E 256 (fun _ => 0))]) C 0 rfl rfl inX5 tyX5 tyX5_ok nmX5 18 (by decide) m_438 rfl rfl rfl rfl rfl (Nat.le_of_ble_eq_true rfl) rfl dX5_init_119 ?_
  refine g_iconst (v := nI (0)) C dX5_init_122 (by decide) ?_
  refine g_istore_n (lv' := [(1, .int (nI (0))), (0, .ref mm)]) C dX5_init_123 rfl (by decide) rfl ?_
  have lp124 : ∀ (n124 : Nat) (i : Nat) (f : Nat → Int32), (i ≤ 256) → (pfx f TB i) → 257 ≤ i + n124 → G g muX5_init E A 14 2657 Q [(mm, .inr (7, [.int (0), .int (0), .ref oc, .ref nx, .ref ia, .ref ms, .int (0), .int (0), .ref ot, .long (0), .ref my, .ref co, .ref bd, .ref bk, .ref oh, .ref rd, .ref mk, .ref rw, .ref ss])), (oc, aI E 272 (fun _ => 0)), (nx, aI E 17 (fun _ => 0)), (ia, aJ E 17 (fun _ => 0)), (ms, aI E 300 (fun _ => 0)), (ot, aI E 16 (fun _ => 0)), (my, aZ E 1105 (fun _ => 0)), (co, aJ E 65 (fun _ => 0)), (bd, aI E 65 (fun _ => 0)), (bk, aI E 16 (fun _ => 0)), (oh, aI E 16 (fun _ => 0)), (rd, aI E 176 (fun _ => 0)), (mk, aI E 16 (fun _ => 0)), (rw, aI E 320 (fun _ => 0)), (ss, aI E 256 (f))] L F 124 [(0, .ref mm), (1, .int (nI (i)))] [] := by
    intro n124
    induction n124 with
    | zero => intro i f hi hf hfu124; exact absurd hfu124 (by omega)
    | succ n124 ih124 =>
      intro i f hi hf hfu124
      refine g_iload_n C dX5_init_124 rfl 1 rfl ?_
      refine g_sipush (v := nI (256)) C dX5_init_125 (by decide) ?_
      refine g_nicmp_ge (tgt := 147) C dX5_init_128 (by decide) (by omega) (by omega) (fun c128 => ?_) (fun c128 => ?_)
      · skip
        refine g_cgI (f' := TB) (X' := [(mm, .inr (7, [.int (0), .int (0), .ref oc, .ref nx, .ref ia, .ref ms, .int (0), .int (0), .ref ot, .long (0), .ref my, .ref co, .ref bd, .ref bk, .ref oh, .ref rd, .ref mk, .ref rw, .ref ss])), (oc, aI E 272 (fun _ => 0)), (nx, aI E 17 (fun _ => 0)), (ia, aJ E 17 (fun _ => 0)), (ms, aI E 300 (fun _ => 0)), (ot, aI E 16 (fun _ => 0)), (my, aZ E 1105 (fun _ => 0)), (co, aJ E 65 (fun _ => 0)), (bd, aI E 65 (fun _ => 0)), (bk, aI E 16 (fun _ => 0)), (oh, aI E 16 (fun _ => 0)), (rd, aI E 176 (fun _ => 0)), (mk, aI E 16 (fun _ => 0)), (rw, aI E 320 (fun _ => 0)), (ss, aI E 256 (TB))]) 14 rfl (fun j hj => hf j (by omega)) rfl ?_
        refine g_toP (X := [(mm, .inr (7, [.int (0), .int (0), .ref oc, .ref nx, .ref ia, .ref ms, .int (0), .int (0), .ref ot, .long (0), .ref my, .ref co, .ref bd, .ref bk, .ref oh, .ref rd, .ref mk, .ref rw, .ref ss])), (oc, aI E 272 (fun _ => 0)), (nx, aI E 17 (fun _ => 0)), (ia, aJ E 17 (fun _ => 0)), (ms, aI E 300 (fun _ => 0)), (ot, aI E 16 (fun _ => 0)), (my, aZ E 1105 (fun _ => 0)), (co, aJ E 65 (fun _ => 0)), (bd, aI E 65 (fun _ => 0)), (bk, aI E 16 (fun _ => 0)), (oh, aI E 16 (fun _ => 0)), (rd, aI E 176 (fun _ => 0)), (mk, aI E 16 (fun _ => 0)), (rw, aI E 320 (fun _ => 0))]) (a := ss) (c := aI E 256 (TB)) ?_
        refine g_toP (X := [(mm, .inr (7, [.int (0), .int (0), .ref oc, .ref nx, .ref ia, .ref ms, .int (0), .int (0), .ref ot, .long (0), .ref my, .ref co, .ref bd, .ref bk, .ref oh, .ref rd, .ref mk, .ref rw, .ref ss])), (oc, aI E 272 (fun _ => 0)), (nx, aI E 17 (fun _ => 0)), (ia, aJ E 17 (fun _ => 0)), (ms, aI E 300 (fun _ => 0)), (ot, aI E 16 (fun _ => 0)), (my, aZ E 1105 (fun _ => 0)), (co, aJ E 65 (fun _ => 0)), (bd, aI E 65 (fun _ => 0)), (bk, aI E 16 (fun _ => 0)), (oh, aI E 16 (fun _ => 0)), (rd, aI E 176 (fun _ => 0)), (mk, aI E 16 (fun _ => 0))]) (a := rw) (c := aI E 320 (fun _ => 0)) ?_
        refine g_toP (X := [(mm, .inr (7, [.int (0), .int (0), .ref oc, .ref nx, .ref ia, .ref ms, .int (0), .int (0), .ref ot, .long (0), .ref my, .ref co, .ref bd, .ref bk, .ref oh, .ref rd, .ref mk, .ref rw, .ref ss])), (oc, aI E 272 (fun _ => 0)), (nx, aI E 17 (fun _ => 0)), (ia, aJ E 17 (fun _ => 0)), (ms, aI E 300 (fun _ => 0)), (ot, aI E 16 (fun _ => 0)), (my, aZ E 1105 (fun _ => 0)), (co, aJ E 65 (fun _ => 0)), (bd, aI E 65 (fun _ => 0)), (bk, aI E 16 (fun _ => 0)), (oh, aI E 16 (fun _ => 0)), (rd, aI E 176 (fun _ => 0))]) (a := mk) (c := aI E 16 (fun _ => 0)) ?_
        refine g_toP (X := [(mm, .inr (7, [.int (0), .int (0), .ref oc, .ref nx, .ref ia, .ref ms, .int (0), .int (0), .ref ot, .long (0), .ref my, .ref co, .ref bd, .ref bk, .ref oh, .ref rd, .ref mk, .ref rw, .ref ss])), (oc, aI E 272 (fun _ => 0)), (nx, aI E 17 (fun _ => 0)), (ia, aJ E 17 (fun _ => 0)), (ms, aI E 300 (fun _ => 0)), (ot, aI E 16 (fun _ => 0)), (my, aZ E 1105 (fun _ => 0)), (co, aJ E 65 (fun _ => 0)), (bd, aI E 65 (fun _ => 0)), (bk, aI E 16 (fun _ => 0)), (oh, aI E 16 (fun _ => 0))]) (a := rd) (c := aI E 176 (fun _ => 0)) ?_
        refine g_toP (X := [(mm, .inr (7, [.int (0), .int (0), .ref oc, .ref nx, .ref ia, .ref ms, .int (0), .int (0), .ref ot, .long (0), .ref my, .ref co, .ref bd, .ref bk, .ref oh, .ref rd, .ref mk, .ref rw, .ref ss])), (oc, aI E 272 (fun _ => 0)), (nx, aI E 17 (fun _ => 0)), (ia, aJ E 17 (fun _ => 0)), (ms, aI E 300 (fun _ => 0)), (ot, aI E 16 (fun _ => 0)), (my, aZ E 1105 (fun _ => 0)), (co, aJ E 65 (fun _ => 0)), (bd, aI E 65 (fun _ => 0)), (bk, aI E 16 (fun _ => 0))]) (a := oh) (c := aI E 16 (fun _ => 0)) ?_
        refine g_toP (X := [(mm, .inr (7, [.int (0), .int (0), .ref oc, .ref nx, .ref ia, .ref ms, .int (0), .int (0), .ref ot, .long (0), .ref my, .ref co, .ref bd, .ref bk, .ref oh, .ref rd, .ref mk, .ref rw, .ref ss])), (oc, aI E 272 (fun _ => 0)), (nx, aI E 17 (fun _ => 0)), (ia, aJ E 17 (fun _ => 0)), (ms, aI E 300 (fun _ => 0)), (ot, aI E 16 (fun _ => 0)), (my, aZ E 1105 (fun _ => 0)), (co, aJ E 65 (fun _ => 0)), (bd, aI E 65 (fun _ => 0))]) (a := bk) (c := aI E 16 (fun _ => 0)) ?_
        refine g_toP (X := [(mm, .inr (7, [.int (0), .int (0), .ref oc, .ref nx, .ref ia, .ref ms, .int (0), .int (0), .ref ot, .long (0), .ref my, .ref co, .ref bd, .ref bk, .ref oh, .ref rd, .ref mk, .ref rw, .ref ss])), (oc, aI E 272 (fun _ => 0)), (nx, aI E 17 (fun _ => 0)), (ia, aJ E 17 (fun _ => 0)), (ms, aI E 300 (fun _ => 0)), (ot, aI E 16 (fun _ => 0)), (my, aZ E 1105 (fun _ => 0)), (co, aJ E 65 (fun _ => 0))]) (a := bd) (c := aI E 65 (fun _ => 0)) ?_
        refine g_toP (X := [(mm, .inr (7, [.int (0), .int (0), .ref oc, .ref nx, .ref ia, .ref ms, .int (0), .int (0), .ref ot, .long (0), .ref my, .ref co, .ref bd, .ref bk, .ref oh, .ref rd, .ref mk, .ref rw, .ref ss])), (oc, aI E 272 (fun _ => 0)), (nx, aI E 17 (fun _ => 0)), (ia, aJ E 17 (fun _ => 0)), (ms, aI E 300 (fun _ => 0)), (ot, aI E 16 (fun _ => 0)), (my, aZ E 1105 (fun _ => 0))]) (a := co) (c := aJ E 65 (fun _ => 0)) ?_
        refine g_toP (X := [(mm, .inr (7, [.int (0), .int (0), .ref oc, .ref nx, .ref ia, .ref ms, .int (0), .int (0), .ref ot, .long (0), .ref my, .ref co, .ref bd, .ref bk, .ref oh, .ref rd, .ref mk, .ref rw, .ref ss])), (oc, aI E 272 (fun _ => 0)), (nx, aI E 17 (fun _ => 0)), (ia, aJ E 17 (fun _ => 0)), (ms, aI E 300 (fun _ => 0)), (ot, aI E 16 (fun _ => 0))]) (a := my) (c := aZ E 1105 (fun _ => 0)) ?_
        refine g_toP (X := [(mm, .inr (7, [.int (0), .int (0), .ref oc, .ref nx, .ref ia, .ref ms, .int (0), .int (0), .ref ot, .long (0), .ref my, .ref co, .ref bd, .ref bk, .ref oh, .ref rd, .ref mk, .ref rw, .ref ss])), (oc, aI E 272 (fun _ => 0)), (nx, aI E 17 (fun _ => 0)), (ia, aJ E 17 (fun _ => 0)), (ms, aI E 300 (fun _ => 0))]) (a := ot) (c := aI E 16 (fun _ => 0)) ?_
        refine g_toP (X := [(mm, .inr (7, [.int (0), .int (0), .ref oc, .ref nx, .ref ia, .ref ms, .int (0), .int (0), .ref ot, .long (0), .ref my, .ref co, .ref bd, .ref bk, .ref oh, .ref rd, .ref mk, .ref rw, .ref ss])), (oc, aI E 272 (fun _ => 0)), (nx, aI E 17 (fun _ => 0)), (ia, aJ E 17 (fun _ => 0))]) (a := ms) (c := aI E 300 (fun _ => 0)) ?_
        refine g_toP (X := [(mm, .inr (7, [.int (0), .int (0), .ref oc, .ref nx, .ref ia, .ref ms, .int (0), .int (0), .ref ot, .long (0), .ref my, .ref co, .ref bd, .ref bk, .ref oh, .ref rd, .ref mk, .ref rw, .ref ss])), (oc, aI E 272 (fun _ => 0)), (nx, aI E 17 (fun _ => 0))]) (a := ia) (c := aJ E 17 (fun _ => 0)) ?_
        refine g_toP (X := [(mm, .inr (7, [.int (0), .int (0), .ref oc, .ref nx, .ref ia, .ref ms, .int (0), .int (0), .ref ot, .long (0), .ref my, .ref co, .ref bd, .ref bk, .ref oh, .ref rd, .ref mk, .ref rw, .ref ss])), (oc, aI E 272 (fun _ => 0))]) (a := nx) (c := aI E 17 (fun _ => 0)) ?_
        refine g_toP (X := [(mm, .inr (7, [.int (0), .int (0), .ref oc, .ref nx, .ref ia, .ref ms, .int (0), .int (0), .ref ot, .long (0), .ref my, .ref co, .ref bd, .ref bk, .ref oh, .ref rd, .ref mk, .ref rw, .ref ss]))]) (a := oc) (c := aI E 272 (fun _ => 0)) ?_
        refine g_cells (ce' := uC muX5_init) (sl' := uS muX5_init) (Nat.le_of_ble_eq_true rfl) (Nat.le_of_ble_eq_true rfl) ?_
        exact g_vret C r rfl ⟨oc, nx, ia, ms, ot, my, co, bd, bk, oh, rd, mk, rw, ss, rfl, rfl, rfl, rfl, trivial⟩ rfl (nN_s (nN_s (nN_s (nN_s (nN_s (nN_s (nN_s (nN_s (nN_s (nN_s (nN_s (nN_s (nN_s (nN_s nN)))))))))))))) dX5_init_147
      · skip
        refine g_aload_n C dX5_init_131 rfl 0 rfl ?_
        refine g_getX C 0 rfl rfl inX5 18 (by decide) m_438 rfl dX5_init_132 ?_
        refine g_iload_n C dX5_init_135 rfl 1 rfl ?_
        refine g_iload_n C dX5_init_136 rfl 1 rfl ?_
        refine g_callS (v := muX5_substituteOf) (cx := []) C (k_X5_substituteOf (gl g) E i L F (by omega)) [] rfl (by decide) gi_X5_54 hd_X5_substituteOf.2 ⟨Nat.le_of_ble_eq_true rfl, Nat.le_of_ble_eq_true rfl⟩ rfl rfl (Nat.le_of_ble_eq_true rfl) ⟨Nat.le_of_ble_eq_true rfl, Nat.le_of_ble_eq_true rfl⟩ dX5_init_137 (fun r9 cx9 L9 F9 hp9 hf9 hN9 => ?_)
        obtain ⟨rfl, rfl, rfl, rfl, -⟩ := hp9
        show G g muX5_init E A 14 2657 Q [(mm, .inr (7, [.int (0), .int (0), .ref oc, .ref nx, .ref ia, .ref ms, .int (0), .int (0), .ref ot, .long (0), .ref my, .ref co, .ref bd, .ref bk, .ref oh, .ref rd, .ref mk, .ref rw, .ref ss])), (oc, aI E 272 (fun _ => 0)), (nx, aI E 17 (fun _ => 0)), (ia, aJ E 17 (fun _ => 0)), (ms, aI E 300 (fun _ => 0)), (ot, aI E 16 (fun _ => 0)), (my, aZ E 1105 (fun _ => 0)), (co, aJ E 65 (fun _ => 0)), (bd, aI E 65 (fun _ => 0)), (bk, aI E 16 (fun _ => 0)), (oh, aI E 16 (fun _ => 0)), (rd, aI E 176 (fun _ => 0)), (mk, aI E 16 (fun _ => 0)), (rw, aI E 320 (fun _ => 0)), (ss, aI E 256 (f))] L F 140 [(0, .ref mm), (1, .int (nI (i)))] [.int (TB i), .int (nI (i)), .ref ss]
        refine g_iast (X' := [(mm, .inr (7, [.int (0), .int (0), .ref oc, .ref nx, .ref ia, .ref ms, .int (0), .int (0), .ref ot, .long (0), .ref my, .ref co, .ref bd, .ref bk, .ref oh, .ref rd, .ref mk, .ref rw, .ref ss])), (oc, aI E 272 (fun _ => 0)), (nx, aI E 17 (fun _ => 0)), (ia, aJ E 17 (fun _ => 0)), (ms, aI E 300 (fun _ => 0)), (ot, aI E 16 (fun _ => 0)), (my, aZ E 1105 (fun _ => 0)), (co, aJ E 65 (fun _ => 0)), (bd, aI E 65 (fun _ => 0)), (bk, aI E 16 (fun _ => 0)), (oh, aI E 16 (fun _ => 0)), (rd, aI E 176 (fun _ => 0)), (mk, aI E 16 (fun _ => 0)), (rw, aI E 320 (fun _ => 0)), (ss, aI E 256 (upd f i (TB i)))]) C 14 rfl (by omega) (by decide) rfl dX5_init_140 ?_
        refine g_iinc (v := nI (i + 1)) (lv' := [(1, .int (nI (i + 1))), (0, .ref mm)]) C dX5_init_141 1 rfl (nI_inc _ 1) (by decide) rfl ?_
        refine g_goto (tgt := 124) C dX5_init_144 (by decide) ?_
        refine g_lv [1, 0] rfl ?_
        exact ih124 (i + 1) (upd f i (TB i)) (by omega) (pfS hf rfl) (by omega)
  refine g_lv [1, 0] rfl ?_
  exact lp124 257 0 (fun _ => 0) (Nat.zero_le _) pf0 (by omega)
