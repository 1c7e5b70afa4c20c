def PSn (L : List Nat) (F : Nat → va_E) (sr : Nat → Option Nat) (i : Nat) : Prop := ∃ sad : Nat → Nat, ∀ j, j < i → sr j = some (sad j) ∧ sad j ∈ L ∧ F (sad j) = .inr (5, [.int (nI (j + 1)), .long 0, .int 0, .int 0])
theorem PSn_0 {L : List Nat} {F : Nat → va_E} {sr : Nat → Option Nat} : PSn L F sr 0 := ⟨fun _ => 0, fun j h => absurd h (Nat.not_lt_zero j)⟩
theorem PSn_s {L : List Nat} {F : Nat → va_E} {sr : Nat → Option Nat} {i q : Nat} (h : PSn L F sr i) (hq : q ∉ L) : PSn (L ++ [q]) (va_up F q (.inr (5, [.int (nI (i + 1)), .long 0, .int 0, .int 0]))) (va_up sr i (some q)) (i + 1) := by
  obtain ⟨sad, h⟩ := h
  refine ⟨va_up sad i q, fun j hj => ?_⟩
  by_cases e : j = i
  · subst e
    rw [va_up_self, va_up_self, va_up_self]
    exact ⟨rfl, by simp, rfl⟩
  · obtain ⟨h1, h2, h3⟩ := h j (by omega)
    have n : sad j ≠ q := fun z => hq (z ▸ h2)
    rw [va_up_ne _ _ e, va_up_ne _ _ e, va_up_ne _ _ n]
    exact ⟨h1, List.mem_append_left _ h2, h3⟩
theorem PSn_e {E : Ev} {L : List Nat} {F : Nat → va_E} {sr kr : Nat → Option Nat} {i : Nat} (hi : 64 ≤ i) (h : PSn L F sr i) : PS E L F kr sr 0 (fun _ _ => 0) (fun _ => 0) (fun _ => 0) (fun _ => 0) (fun _ => 0) (fun _ => 0) := by
  obtain ⟨sad, h⟩ := h
  exact ⟨fun _ => 0, fun _ => 0, sad, ⟨fun j hj => absurd hj (Nat.not_lt_zero j), fun i j hi => absurd hi (Nat.not_lt_zero i), fun i j hi => absurd hi (Nat.not_lt_zero i)⟩, fun j hj => h j (by omega)⟩
theorem nd_last {A L : List Nat} {q : Nat} (h : (A ++ (L ++ [q])).Nodup) : q ∉ L := by
  have h1 := List.nodup_append.mp (List.nodup_append.mp h).2.1
  exact fun z => h1.2.2 q z q (by simp) rfl
theorem nN_s {L L1 : List Nat} {q : Nat} (h : ∃ N, L1 = L ++ N) : ∃ N, L1 ++ [q] = L ++ N := by
  obtain ⟨N, rfl⟩ := h
  exact ⟨N ++ [q], by rw [List.append_assoc]⟩
abbrev muX4_verify : Mu := (cX4_verify, 10, RX4, (some .int), "verify", 6, 0, 0, 139)
theorem hd_X4_verify : yX4_verify.cls = RX4 ∧ yX4_verify.cls ≠ "java/lang/invoke/MethodHandle" ∧ yX4_verify.cls ≠ "java/lang/invoke/VarHandle" ∧ (parseMethodDescriptor yX4_verify.desc).map (fun d => d.parameters.length) = some 3 := by decide +kernel
set_option maxHeartbeats 4000000 in
set_option maxRecDepth 100000 in
theorem k_X4_verify (l : Launch) (E : Ev) (xx ka sa ma oa ba h0 c0 nk ml on : Nat) (tr : Int64) (kr sr : Nat → Option Nat) (ko : Nat → Nat → Int32) (kn : Nat → Nat) (kc sc : Nat → Int64) (sb : Nat → Nat) (sl : Nat → Int32) (r0 t0 k0 x0 : Nat) (f tn sk res : Nat → Int32) (fi : Int32) (msg : Nat → Int32) (k id cut : Int32) (L : List Nat) (F : Nat → va_E) (hnk : nk ≤ 16) (hml : ml ≤ 300) (hPS : PS E L F kr sr nk ko kn kc sc sb sl) (hsb : ∀ j, j < 64 → sb j ≤ 5) : KC l E yX4_verify muX4_verify [.ref xx, .int (k), .int (id), .int (cut)] [(xx, .inr (6, [.ref ka, .int (nI (nk)), .ref sa, .long (tr), .ref ma, .int (nI (ml)), .ref oa, .int (nI (on)), .ref ba, .ref h0, .ref c0])), (ka, aK E 16 (kr)), (sa, aS E 64 (sr)), (ma, aI E 300 (msg)), (h0, .inr (2, [.ref r0, .ref t0])), (r0, aI E 176 (f)), (t0, aI E 16 (tn)), (c0, .inr (3, [.ref h0, .ref k0, .ref x0, .int (fi)])), (k0, aI E 16 (sk)), (x0, aI E 16 (res))] L F (fun r8 cx8 L8 F8 => ∃ (r1 : Int32) (ml1 : Nat) (F1 : Nat → va_E) (sc1 : Nat → Int64) (sb1 : Nat → Nat) (f1 tn1 sk1 res1 : Nat → Int32) (fi1 : Int32), r8 = some (.int (r1)) ∧ cx8 = [(xx, .inr (6, [.ref ka, .int (nI (nk)), .ref sa, .long (tr), .ref ma, .int (nI (ml1)), .ref oa, .int (nI (on)), .ref ba, .ref h0, .ref c0])), (ka, aK E 16 (kr)), (sa, aS E 64 (sr)), (ma, aI E 300 (msg)), (h0, .inr (2, [.ref r0, .ref t0])), (r0, aI E 176 (f1)), (t0, aI E 16 (tn1)), (c0, .inr (3, [.ref h0, .ref k0, .ref x0, .int (fi1)])), (k0, aI E 16 (sk1)), (x0, aI E 16 (res1))] ∧ L = L8 ∧ F1 = F8 ∧ (PS E L F1 kr sr nk ko kn kc sc1 sb1 sl ∧ (r1, ml1, sc1, sb1) = vfS nk ko ml msg tr sc sb sl k id cut)) := by
  refine K_start (by decide) rfl rfl (Nat.le_of_ble_eq_true rfl) (fun g A Q hgl C r => ?_)
  subst hgl
  show G g muX4_verify E A 0 0 Q [(xx, .inr (6, [.ref ka, .int (nI (nk)), .ref sa, .long (tr), .ref ma, .int (nI (ml)), .ref oa, .int (nI (on)), .ref ba, .ref h0, .ref c0])), (ka, aK E 16 (kr)), (sa, aS E 64 (sr)), (ma, aI E 300 (msg)), (h0, .inr (2, [.ref r0, .ref t0])), (r0, aI E 176 (f)), (t0, aI E 16 (tn)), (c0, .inr (3, [.ref h0, .ref k0, .ref x0, .int (fi)])), (k0, aI E 16 (sk)), (x0, aI E 16 (res))] L F 0 [(0, .ref xx), (1, .int (k)), (2, .int (id)), (3, .int (cut))] []
  refine g_aload_n C dX4_verify_0 rfl 0 rfl ?_
  refine g_iload_n C dX4_verify_1 rfl 1 rfl ?_
  refine g_callV (v := muX4_findKey) (cx := [(xx, .inr (6, [.ref ka, .int (nI (nk)), .ref sa, .long (tr), .ref ma, .int (nI (ml)), .ref oa, .int (nI (on)), .ref ba, .ref h0, .ref c0])), (ka, aK E 16 (kr))]) C (k_X4_findKey (gl g) E xx ka sa ma oa ba h0 c0 nk ml on tr kr k L F hnk) [0, 1] rfl (by decide) 0 rfl rfl gi_X4_55 hd_X4_findKey ⟨Nat.le_of_ble_eq_true rfl, Nat.le_of_ble_eq_true rfl⟩ rfl rfl (Nat.le_of_ble_eq_true rfl) ⟨Nat.le_of_ble_eq_true rfl, Nat.le_of_ble_eq_true rfl⟩ dX4_verify_2 (fun r9 cx9 L9 F9 hp9 hf9 hN9 => ?_)
  obtain ⟨rfl, rfl, rfl, rfl, -⟩ := hp9
  show G g muX4_verify E A 0 0 Q [(xx, .inr (6, [.ref ka, .int (nI (nk)), .ref sa, .long (tr), .ref ma, .int (nI (ml)), .ref oa, .int (nI (on)), .ref ba, .ref h0, .ref c0])), (ka, aK E 16 (kr)), (sa, aS E 64 (sr)), (ma, aI E 300 (msg)), (h0, .inr (2, [.ref r0, .ref t0])), (r0, aI E 176 (f)), (t0, aI E 16 (tn)), (c0, .inr (3, [.ref h0, .ref k0, .ref x0, .int (fi)])), (k0, aI E 16 (sk)), (x0, aI E 16 (res))] L F 5 [(0, .ref xx), (1, .int (k)), (2, .int (id)), (3, .int (cut))] [va_rf ((kf nk k).bind kr)]
  rcases hkf : kf nk k with _ | i
  · skip
    show G g muX4_verify E A 0 0 Q [(xx, .inr (6, [.ref ka, .int (nI (nk)), .ref sa, .long (tr), .ref ma, .int (nI (ml)), .ref oa, .int (nI (on)), .ref ba, .ref h0, .ref c0])), (ka, aK E 16 (kr)), (sa, aS E 64 (sr)), (ma, aI E 300 (msg)), (h0, .inr (2, [.ref r0, .ref t0])), (r0, aI E 176 (f)), (t0, aI E 16 (tn)), (c0, .inr (3, [.ref h0, .ref k0, .ref x0, .int (fi)])), (k0, aI E 16 (sk)), (x0, aI E 16 (res))] L F 5 [(0, .ref xx), (1, .int (k)), (2, .int (id)), (3, .int (cut))] [.null]
    refine g_astoreN (lv' := [(4, .null), (0, .ref xx), (1, .int (k)), (2, .int (id)), (3, .int (cut))]) C dX4_verify_5 (by decide) rfl ?_
    refine g_aload_n C dX4_verify_7 rfl 1 rfl ?_
    refine g_iload_n C dX4_verify_8 rfl 3 rfl ?_
    refine g_callV (v := muX4_findSender) (cx := [(xx, .inr (6, [.ref ka, .int (nI (nk)), .ref sa, .long (tr), .ref ma, .int (nI (ml)), .ref oa, .int (nI (on)), .ref ba, .ref h0, .ref c0])), (sa, aS E 64 (sr))]) C (k_X4_findSender (gl g) E xx ka sa ma oa ba h0 c0 nk ml on tr sr id L F ) [0, 2] rfl (by decide) 0 rfl rfl gi_X4_95 hd_X4_findSender ⟨Nat.le_of_ble_eq_true rfl, Nat.le_of_ble_eq_true rfl⟩ rfl rfl (Nat.le_of_ble_eq_true rfl) ⟨Nat.le_of_ble_eq_true rfl, Nat.le_of_ble_eq_true rfl⟩ dX4_verify_9 (fun r9 cx9 L9 F9 hp9 hf9 hN9 => ?_)
    obtain ⟨rfl, rfl, rfl, rfl, -⟩ := hp9
    show G g muX4_verify E A 0 0 Q [(xx, .inr (6, [.ref ka, .int (nI (nk)), .ref sa, .long (tr), .ref ma, .int (nI (ml)), .ref oa, .int (nI (on)), .ref ba, .ref h0, .ref c0])), (ka, aK E 16 (kr)), (sa, aS E 64 (sr)), (ma, aI E 300 (msg)), (h0, .inr (2, [.ref r0, .ref t0])), (r0, aI E 176 (f)), (t0, aI E 16 (tn)), (c0, .inr (3, [.ref h0, .ref k0, .ref x0, .int (fi)])), (k0, aI E 16 (sk)), (x0, aI E 16 (res))] L F 12 [(4, .null), (0, .ref xx), (1, .int (k)), (2, .int (id)), (3, .int (cut))] [va_rf ((kf 64 id).bind sr)]
    rcases hsf : kf 64 id with _ | j
    · skip
      show G g muX4_verify E A 0 0 Q [(xx, .inr (6, [.ref ka, .int (nI (nk)), .ref sa, .long (tr), .ref ma, .int (nI (ml)), .ref oa, .int (nI (on)), .ref ba, .ref h0, .ref c0])), (ka, aK E 16 (kr)), (sa, aS E 64 (sr)), (ma, aI E 300 (msg)), (h0, .inr (2, [.ref r0, .ref t0])), (r0, aI E 176 (f)), (t0, aI E 16 (tn)), (c0, .inr (3, [.ref h0, .ref k0, .ref x0, .int (fi)])), (k0, aI E 16 (sk)), (x0, aI E 16 (res))] L F 12 [(4, .null), (0, .ref xx), (1, .int (k)), (2, .int (id)), (3, .int (cut))] [.null]
      refine g_astoreN (lv' := [(5, .null), (4, .null), (0, .ref xx), (1, .int (k)), (2, .int (id)), (3, .int (cut))]) C dX4_verify_12 (by decide) rfl ?_
      refine g_aloadN C dX4_verify_14 1 rfl ?_
      refine g_ifnullN (tgt := 24) C dX4_verify_16 (by decide) ?_
      refine g_iconst (v := (-1 : Int32)) C dX4_verify_24 (by decide) ?_
      exact g_iret C r rfl ⟨-1, ml, F, sc, sb, f, tn, sk, res, fi, rfl, rfl, rfl, rfl, hPS, by unfold vfS; simp only [hkf]⟩ rfl nN dX4_verify_25
    · skip
      obtain ⟨hj_b9, hje_b9⟩ := kf_some (by omega) hsf
      obtain ⟨b9, hsr_b9, hsL_b9, hsF_b9, sset_b9⟩ := hPS.sender hj_b9
      rw [show Option.bind (some j) sr = some b9 from hsr_b9]
      show G g muX4_verify E A 0 0 Q [(xx, .inr (6, [.ref ka, .int (nI (nk)), .ref sa, .long (tr), .ref ma, .int (nI (ml)), .ref oa, .int (nI (on)), .ref ba, .ref h0, .ref c0])), (ka, aK E 16 (kr)), (sa, aS E 64 (sr)), (ma, aI E 300 (msg)), (h0, .inr (2, [.ref r0, .ref t0])), (r0, aI E 176 (f)), (t0, aI E 16 (tn)), (c0, .inr (3, [.ref h0, .ref k0, .ref x0, .int (fi)])), (k0, aI E 16 (sk)), (x0, aI E 16 (res))] L F 12 [(4, .null), (0, .ref xx), (1, .int (k)), (2, .int (id)), (3, .int (cut))] [.ref b9]
      refine g_astore (lv' := [(5, .ref b9), (4, .null), (0, .ref xx), (1, .int (k)), (2, .int (id)), (3, .int (cut))]) C dX4_verify_12 (by decide) rfl ?_
      refine g_aloadN C dX4_verify_14 1 rfl ?_
      refine g_ifnullN (tgt := 24) C dX4_verify_16 (by decide) ?_
      refine g_iconst (v := (-1 : Int32)) C dX4_verify_24 (by decide) ?_
      exact g_iret C r rfl ⟨-1, ml, F, sc, sb, f, tn, sk, res, fi, rfl, rfl, rfl, rfl, hPS, by unfold vfS; simp only [hkf]⟩ rfl nN dX4_verify_25
  · skip
    obtain ⟨hi_a, hke_a⟩ := kf_some (by omega) hkf
    obtain ⟨a, o, hkr_a, hkL_a, hkF_a, hoL_a, hoF_a, hkn_a, hne_a, hset⟩ := hPS.key hi_a
    rw [show Option.bind (some i) kr = some a from hkr_a]
    show G g muX4_verify E A 0 0 Q [(xx, .inr (6, [.ref ka, .int (nI (nk)), .ref sa, .long (tr), .ref ma, .int (nI (ml)), .ref oa, .int (nI (on)), .ref ba, .ref h0, .ref c0])), (ka, aK E 16 (kr)), (sa, aS E 64 (sr)), (ma, aI E 300 (msg)), (h0, .inr (2, [.ref r0, .ref t0])), (r0, aI E 176 (f)), (t0, aI E 16 (tn)), (c0, .inr (3, [.ref h0, .ref k0, .ref x0, .int (fi)])), (k0, aI E 16 (sk)), (x0, aI E 16 (res))] L F 5 [(0, .ref xx), (1, .int (k)), (2, .int (id)), (3, .int (cut))] [.ref a]
    refine g_astore (lv' := [(4, .ref a), (0, .ref xx), (1, .int (k)), (2, .int (id)), (3, .int (cut))]) C dX4_verify_5 (by decide) rfl ?_
    refine g_aload_n C dX4_verify_7 rfl 1 rfl ?_
    refine g_iload_n C dX4_verify_8 rfl 3 rfl ?_
    refine g_callV (v := muX4_findSender) (cx := [(xx, .inr (6, [.ref ka, .int (nI (nk)), .ref sa, .long (tr), .ref ma, .int (nI (ml)), .ref oa, .int (nI (on)), .ref ba, .ref h0, .ref c0])), (sa, aS E 64 (sr))]) C (k_X4_findSender (gl g) E xx ka sa ma oa ba h0 c0 nk ml on tr sr id L F ) [0, 2] rfl (by decide) 0 rfl rfl gi_X4_95 hd_X4_findSender ⟨Nat.le_of_ble_eq_true rfl, Nat.le_of_ble_eq_true rfl⟩ rfl rfl (Nat.le_of_ble_eq_true rfl) ⟨Nat.le_of_ble_eq_true rfl, Nat.le_of_ble_eq_true rfl⟩ dX4_verify_9 (fun r9 cx9 L9 F9 hp9 hf9 hN9 => ?_)
    obtain ⟨rfl, rfl, rfl, rfl, -⟩ := hp9
    show G g muX4_verify E A 0 0 Q [(xx, .inr (6, [.ref ka, .int (nI (nk)), .ref sa, .long (tr), .ref ma, .int (nI (ml)), .ref oa, .int (nI (on)), .ref ba, .ref h0, .ref c0])), (ka, aK E 16 (kr)), (sa, aS E 64 (sr)), (ma, aI E 300 (msg)), (h0, .inr (2, [.ref r0, .ref t0])), (r0, aI E 176 (f)), (t0, aI E 16 (tn)), (c0, .inr (3, [.ref h0, .ref k0, .ref x0, .int (fi)])), (k0, aI E 16 (sk)), (x0, aI E 16 (res))] L F 12 [(4, .ref a), (0, .ref xx), (1, .int (k)), (2, .int (id)), (3, .int (cut))] [va_rf ((kf 64 id).bind sr)]
    rcases hsf : kf 64 id with _ | j
    · skip
      show G g muX4_verify E A 0 0 Q [(xx, .inr (6, [.ref ka, .int (nI (nk)), .ref sa, .long (tr), .ref ma, .int (nI (ml)), .ref oa, .int (nI (on)), .ref ba, .ref h0, .ref c0])), (ka, aK E 16 (kr)), (sa, aS E 64 (sr)), (ma, aI E 300 (msg)), (h0, .inr (2, [.ref r0, .ref t0])), (r0, aI E 176 (f)), (t0, aI E 16 (tn)), (c0, .inr (3, [.ref h0, .ref k0, .ref x0, .int (fi)])), (k0, aI E 16 (sk)), (x0, aI E 16 (res))] L F 12 [(4, .ref a), (0, .ref xx), (1, .int (k)), (2, .int (id)), (3, .int (cut))] [.null]
      refine g_astoreN (lv' := [(5, .null), (4, .ref a), (0, .ref xx), (1, .int (k)), (2, .int (id)), (3, .int (cut))]) C dX4_verify_12 (by decide) rfl ?_
      refine g_aload C dX4_verify_14 1 rfl ?_
      refine g_ifnull C dX4_verify_16 ?_
      refine g_aloadN C dX4_verify_19 0 rfl ?_
      refine g_ifnonnullN C dX4_verify_21 ?_
      refine g_iconst (v := (-1 : Int32)) C dX4_verify_24 (by decide) ?_
      exact g_iret C r rfl ⟨-1, ml, F, sc, sb, f, tn, sk, res, fi, rfl, rfl, rfl, rfl, hPS, by unfold vfS; simp only [hkf, hsf, ]⟩ rfl nN dX4_verify_25
    · skip
      obtain ⟨hj_b9, hje_b9⟩ := kf_some (by omega) hsf
      obtain ⟨b9, hsr_b9, hsL_b9, hsF_b9, sset_b9⟩ := hPS.sender hj_b9
      rw [show Option.bind (some j) sr = some b9 from hsr_b9]
      show G g muX4_verify E A 0 0 Q [(xx, .inr (6, [.ref ka, .int (nI (nk)), .ref sa, .long (tr), .ref ma, .int (nI (ml)), .ref oa, .int (nI (on)), .ref ba, .ref h0, .ref c0])), (ka, aK E 16 (kr)), (sa, aS E 64 (sr)), (ma, aI E 300 (msg)), (h0, .inr (2, [.ref r0, .ref t0])), (r0, aI E 176 (f)), (t0, aI E 16 (tn)), (c0, .inr (3, [.ref h0, .ref k0, .ref x0, .int (fi)])), (k0, aI E 16 (sk)), (x0, aI E 16 (res))] L F 12 [(4, .ref a), (0, .ref xx), (1, .int (k)), (2, .int (id)), (3, .int (cut))] [.ref b9]
      refine g_astore (lv' := [(5, .ref b9), (4, .ref a), (0, .ref xx), (1, .int (k)), (2, .int (id)), (3, .int (cut))]) C dX4_verify_12 (by decide) rfl ?_
      refine g_aload C dX4_verify_14 1 rfl ?_
      refine g_ifnull C dX4_verify_16 ?_
      refine g_aload C dX4_verify_19 0 rfl ?_
      refine g_ifnonnull (tgt := 26) C dX4_verify_21 (by decide) ?_
      refine g_iload_n C dX4_verify_26 rfl 5 rfl ?_
      refine g_if_lt (tgt := 37) C dX4_verify_27 (by decide) (fun c27 => ?_) (fun c27 => ?_)
      · skip
        refine g_bipush (v := (-2 : Int32)) C dX4_verify_37 (by decide) ?_
        exact g_iret C r rfl ⟨-2, ml, F, sc, sb, f, tn, sk, res, fi, rfl, rfl, rfl, rfl, hPS, by unfold vfS; simp only [hkf, hsf, if_pos c27]⟩ rfl nN dX4_verify_39
      · skip
        refine g_iload_n C dX4_verify_30 rfl 5 rfl ?_
        refine g_sipush (v := nI (255)) C dX4_verify_31 (by decide) ?_
        refine g_icmp_le (tgt := 40) C dX4_verify_34 (by decide) (fun c34 => ?_) (fun c34 => ?_)
        · skip
          refine g_aload C dX4_verify_40 0 rfl ?_
          refine g_iload_n C dX4_verify_42 rfl 3 rfl ?_
          refine g_callP (v := muX3_mayUse) (cx := []) C (k_X3_mayUse (gl g) E b9 (nI (j + 1)) (sl j) (sc j) (sb j) k L F hsL_b9 hsF_b9) [] rfl (by decide) hsL_b9 hsF_b9 rfl gi_X4_105 hd_X3_mayUse ⟨Nat.le_of_ble_eq_true rfl, Nat.le_of_ble_eq_true rfl⟩ rfl rfl (Nat.le_of_ble_eq_true rfl) ⟨Nat.le_of_ble_eq_true rfl, Nat.le_of_ble_eq_true rfl⟩ dX4_verify_43 (fun r9 cx9 L9 F9 hp9 hf9 hN9 => ?_)
          obtain ⟨rfl, rfl, rfl, rfl, -⟩ := hp9
          show G g muX4_verify E A 0 0 Q [(xx, .inr (6, [.ref ka, .int (nI (nk)), .ref sa, .long (tr), .ref ma, .int (nI (ml)), .ref oa, .int (nI (on)), .ref ba, .ref h0, .ref c0])), (ka, aK E 16 (kr)), (sa, aS E 64 (sr)), (ma, aI E 300 (msg)), (h0, .inr (2, [.ref r0, .ref t0])), (r0, aI E 176 (f)), (t0, aI E 16 (tn)), (c0, .inr (3, [.ref h0, .ref k0, .ref x0, .int (fi)])), (k0, aI E 16 (sk)), (x0, aI E 16 (res))] L F 46 [(5, .ref b9), (4, .ref a), (0, .ref xx), (1, .int (k)), (2, .int (id)), (3, .int (cut))] [.int (b2 (mayB (sl j) k))]
          refine g_if_eq (tgt := 66) C dX4_verify_46 (by decide) (fun c46 => ?_) (fun c46 => ?_)
          · skip
            have hm : ¬ mayB (sl j) k = true := by rw [b2_f c46]; exact Bool.false_ne_true
            refine g_bipush (v := (-3 : Int32)) C dX4_verify_66 (by decide) ?_
            exact g_iret C r rfl ⟨-3, ml, F, sc, sb, f, tn, sk, res, fi, rfl, rfl, rfl, rfl, hPS, by unfold vfS; simp only [hkf, hsf, if_neg c27, if_pos c34, if_neg hm]⟩ rfl nN dX4_verify_68
          · skip
            have hm := b2_t c46
            refine g_aload C dX4_verify_49 0 rfl ?_
            refine g_callP (v := muX3_isBlocked) (cx := []) C (k_X3_isBlocked (gl g) E b9 (nI (j + 1)) (sl j) (sc j) (sb j) L F hsL_b9 hsF_b9 (hsb j hj_b9)) [] rfl (by decide) hsL_b9 hsF_b9 rfl gi_X4_109 hd_X3_isBlocked ⟨Nat.le_of_ble_eq_true rfl, Nat.le_of_ble_eq_true rfl⟩ rfl rfl (Nat.le_of_ble_eq_true rfl) ⟨Nat.le_of_ble_eq_true rfl, Nat.le_of_ble_eq_true rfl⟩ dX4_verify_51 (fun r9 cx9 L9 F9 hp9 hf9 hN9 => ?_)
            obtain ⟨rfl, rfl, rfl, rfl, -⟩ := hp9
            show G g muX4_verify E A 0 0 Q [(xx, .inr (6, [.ref ka, .int (nI (nk)), .ref sa, .long (tr), .ref ma, .int (nI (ml)), .ref oa, .int (nI (on)), .ref ba, .ref h0, .ref c0])), (ka, aK E 16 (kr)), (sa, aS E 64 (sr)), (ma, aI E 300 (msg)), (h0, .inr (2, [.ref r0, .ref t0])), (r0, aI E 176 (f)), (t0, aI E 16 (tn)), (c0, .inr (3, [.ref h0, .ref k0, .ref x0, .int (fi)])), (k0, aI E 16 (sk)), (x0, aI E 16 (res))] L F 54 [(5, .ref b9), (4, .ref a), (0, .ref xx), (1, .int (k)), (2, .int (id)), (3, .int (cut))] [.int (b2 (decide (5 ≤ (sb j))))]
            refine g_if_ne (tgt := 66) C dX4_verify_54 (by decide) (fun c54 => ?_) (fun c54 => ?_)
            · skip
              have hbl := of_decide_eq_true (b2_t c54)
              refine g_bipush (v := (-3 : Int32)) C dX4_verify_66 (by decide) ?_
              exact g_iret C r rfl ⟨-3, ml, F, sc, sb, f, tn, sk, res, fi, rfl, rfl, rfl, rfl, hPS, by unfold vfS; simp only [hkf, hsf, if_neg c27, if_pos c34, if_pos hm, if_pos hbl]⟩ rfl nN dX4_verify_68
            · skip
              have hbl := of_decide_eq_false (b2_f c54)
              refine g_aload_n C dX4_verify_57 rfl 2 rfl ?_
              refine g_getX C 0 rfl rfl inX4 5 (by decide) m_87 rfl dX4_verify_58 ?_
              refine g_bipush (v := nI (8)) C dX4_verify_61 (by decide) ?_
              refine g_nicmp_ge (tgt := 69) C dX4_verify_63 (by decide) (by omega) (by omega) (fun c63 => ?_) (fun c63 => ?_)
              · skip
                refine g_aload C dX4_verify_69 0 rfl ?_
                refine g_iload_n C dX4_verify_71 rfl 5 rfl ?_
                refine g_callP (v := muX3_stepsTo) (cx := []) C (k_X3_stepsTo (gl g) E b9 (nI (j + 1)) (sl j) (sc j) (sb j) cut L F hsL_b9 hsF_b9) [] rfl (by decide) hsL_b9 hsF_b9 rfl gi_X4_113 hd_X3_stepsTo ⟨Nat.le_of_ble_eq_true rfl, Nat.le_of_ble_eq_true rfl⟩ rfl rfl (Nat.le_of_ble_eq_true rfl) ⟨Nat.le_of_ble_eq_true rfl, Nat.le_of_ble_eq_true rfl⟩ dX4_verify_72 (fun r9 cx9 L9 F9 hp9 hf9 hN9 => ?_)
                obtain ⟨rfl, rfl, rfl, rfl, -⟩ := hp9
                show G g muX4_verify E A 0 0 Q [(xx, .inr (6, [.ref ka, .int (nI (nk)), .ref sa, .long (tr), .ref ma, .int (nI (ml)), .ref oa, .int (nI (on)), .ref ba, .ref h0, .ref c0])), (ka, aK E 16 (kr)), (sa, aS E 64 (sr)), (ma, aI E 300 (msg)), (h0, .inr (2, [.ref r0, .ref t0])), (r0, aI E 176 (f)), (t0, aI E 16 (tn)), (c0, .inr (3, [.ref h0, .ref k0, .ref x0, .int (fi)])), (k0, aI E 16 (sk)), (x0, aI E 16 (res))] L F 75 [(5, .ref b9), (4, .ref a), (0, .ref xx), (1, .int (k)), (2, .int (id)), (3, .int (cut))] [.int ((cut - ((sc j) &&& 255).toInt32) &&& nI 255)]
                refine g_asi (show ((cut - ((sc j) &&& 255).toInt32) &&& nI 255) = (dS cut (sc j)) from rfl) ?_
                refine g_istore (lv' := [(6, .int (dS cut (sc j))), (5, .ref b9), (4, .ref a), (0, .ref xx), (1, .int (k)), (2, .int (id)), (3, .int (cut))]) C dX4_verify_75 (by decide) rfl ?_
                refine g_aload C dX4_verify_77 1 rfl ?_
                refine g_getP C hsL_b9 hsF_b9 rfl inX3 1 (by decide) m_70 rfl dX4_verify_79 ?_
                refine g_iload C dX4_verify_82 0 rfl ?_
                refine g_i2l (v := (dS cut (sc j)).toInt64) C dX4_verify_84 rfl ?_
                refine g_ladd C dX4_verify_85 ?_
                refine g_lstore (lv' := [(7, .long ((sc j) + ((dS cut (sc j)).toInt64))), (6, .int (dS cut (sc j))), (5, .ref b9), (4, .ref a), (0, .ref xx), (1, .int (k)), (2, .int (id)), (3, .int (cut))]) C dX4_verify_86 (by decide) rfl ?_
                refine g_iload C dX4_verify_88 1 rfl ?_
                refine g_if_ne (tgt := 99) C dX4_verify_90 (by decide) (fun c90 => ?_) (fun c90 => ?_)
                · skip
                  refine g_iload C dX4_verify_99 1 rfl ?_
                  refine g_bipush (v := nI (64)) C dX4_verify_101 (by decide) ?_
                  refine g_icmp_gt (tgt := 115) C dX4_verify_103 (by decide) (fun c103 => ?_) (fun c103 => ?_)
                  · skip
                    refine g_iconst (v := nI (2)) C dX4_verify_115 (by decide) ?_
                    refine g_istore (lv' := [(9, .int (nI (2))), (7, .long ((sc j) + ((dS cut (sc j)).toInt64))), (6, .int (dS cut (sc j))), (5, .ref b9), (4, .ref a), (0, .ref xx), (1, .int (k)), (2, .int (id)), (3, .int (cut))]) C dX4_verify_116 (by decide) rfl ?_
                    refine g_goto (tgt := 140) C dX4_verify_118 (by decide) ?_
                    refine g_aload_n C dX4_verify_140 rfl 5 rfl ?_
                    refine g_callV (v := muX4_emptyMessage) (cx := [(xx, .inr (6, [.ref ka, .int (nI (nk)), .ref sa, .long (tr), .ref ma, .int (nI (ml)), .ref oa, .int (nI (on)), .ref ba, .ref h0, .ref c0]))]) C (k_X4_emptyMessage (gl g) E xx ka sa ma oa ba h0 c0 nk ml on tr L F ) [0] rfl (by decide) 0 rfl rfl gi_X4_76 hd_X4_emptyMessage ⟨Nat.le_of_ble_eq_true rfl, Nat.le_of_ble_eq_true rfl⟩ rfl rfl (Nat.le_of_ble_eq_true rfl) ⟨Nat.le_of_ble_eq_true rfl, Nat.le_of_ble_eq_true rfl⟩ dX4_verify_141 (fun r9 cx9 L9 F9 hp9 hf9 hN9 => ?_)
                    obtain ⟨rfl, rfl, rfl, rfl, -⟩ := hp9
                    show G g muX4_verify E A 0 0 Q [(xx, .inr (6, [.ref ka, .int (nI (nk)), .ref sa, .long (tr), .ref ma, .int (nI (0)), .ref oa, .int (nI (on)), .ref ba, .ref h0, .ref c0])), (ka, aK E 16 (kr)), (sa, aS E 64 (sr)), (ma, aI E 300 (msg)), (h0, .inr (2, [.ref r0, .ref t0])), (r0, aI E 176 (f)), (t0, aI E 16 (tn)), (c0, .inr (3, [.ref h0, .ref k0, .ref x0, .int (fi)])), (k0, aI E 16 (sk)), (x0, aI E 16 (res))] L F 144 [(9, .int (nI (2))), (7, .long ((sc j) + ((dS cut (sc j)).toInt64))), (6, .int (dS cut (sc j))), (5, .ref b9), (4, .ref a), (0, .ref xx), (1, .int (k)), (2, .int (id)), (3, .int (cut))] []
                    refine g_iload C dX4_verify_144 0 rfl ?_
                    exact g_iret C r rfl ⟨nI 2, 0, F, sc, sb, f, tn, sk, res, fi, rfl, rfl, rfl, rfl, hPS, by unfold vfS; simp only [hkf, hsf, if_neg c27, if_pos c34, if_pos hm, if_neg hbl, if_pos c63, if_neg c90, if_pos c103]⟩ rfl nN dX4_verify_146
                  · skip
                    refine g_lload C dX4_verify_106 0 rfl ?_
                    refine g_ldc2_w C m_235 dX4_verify_108 ?_
                    refine g_lcmp C dX4_verify_111 ?_
                    refine g_if_le (tgt := 121) C dX4_verify_112 (by decide) (fun c112 => ?_) (fun c112 => ?_)
                    · skip
                      rw [lg_cmp_le] at c112
                      refine g_aload C dX4_verify_121 2 rfl ?_
                      refine g_lload C dX4_verify_123 0 rfl ?_
                      refine g_aload_n C dX4_verify_125 rfl 4 rfl ?_
                      refine g_aload C dX4_verify_126 3 rfl ?_
                      refine g_aload C dX4_verify_128 2 rfl ?_
                      refine g_lload C dX4_verify_130 0 rfl ?_
                      refine g_callV (v := muX4_isCodedRow) (cx := [(xx, .inr (6, [.ref ka, .int (nI (nk)), .ref sa, .long (tr), .ref ma, .int (nI (ml)), .ref oa, .int (nI (on)), .ref ba, .ref h0, .ref c0])), (ma, aI E 300 (msg)), (h0, .inr (2, [.ref r0, .ref t0])), (r0, aI E 176 (f)), (t0, aI E 16 (tn)), (c0, .inr (3, [.ref h0, .ref k0, .ref x0, .int (fi)])), (k0, aI E 16 (sk)), (x0, aI E 16 (res))]) C (k_X4_isCodedRow (gl g) E xx ka sa ma oa ba h0 c0 nk ml on tr r0 t0 k0 x0 f tn sk res fi msg a o (ko i) (nI (kn i)) (kc i) b9 (nI (j + 1)) (sl j) (sc j) (sb j) (sc j + (dS cut (sc j)).toInt64) L F hml c63 hkL_a hkF_a hoL_a hoF_a hsL_b9 hsF_b9) [0, 3, 4, 5, 6, 7, 8, 9] rfl (by decide) 0 rfl rfl gi_X4_117 hd_X4_isCodedRow ⟨Nat.le_of_ble_eq_true rfl, Nat.le_of_ble_eq_true rfl⟩ rfl rfl (Nat.le_of_ble_eq_true rfl) ⟨Nat.le_of_ble_eq_true rfl, Nat.le_of_ble_eq_true rfl⟩ dX4_verify_132 (fun r9 cx9 L9 F9 hp9 hf9 hN9 => ?_)
                      obtain ⟨f2, tn2, sk2, res2, fi2, rfl, rfl, rfl, rfl, -⟩ := hp9
                      show G g muX4_verify E A 0 0 Q [(xx, .inr (6, [.ref ka, .int (nI (nk)), .ref sa, .long (tr), .ref ma, .int (nI (ml)), .ref oa, .int (nI (on)), .ref ba, .ref h0, .ref c0])), (ka, aK E 16 (kr)), (sa, aS E 64 (sr)), (ma, aI E 300 (msg)), (h0, .inr (2, [.ref r0, .ref t0])), (r0, aI E 176 (f2)), (t0, aI E 16 (tn2)), (c0, .inr (3, [.ref h0, .ref k0, .ref x0, .int (fi2)])), (k0, aI E 16 (sk2)), (x0, aI E 16 (res2))] L F 135 [(7, .long ((sc j) + ((dS cut (sc j)).toInt64))), (6, .int (dS cut (sc j))), (5, .ref b9), (4, .ref a), (0, .ref xx), (1, .int (k)), (2, .int (id)), (3, .int (cut))] [.int (b2 (cdB (ko i) (nI (j + 1)) tr (sc j + (dS cut (sc j)).toInt64) msg ml)), .long ((sc j) + ((dS cut (sc j)).toInt64)), .ref b9]
                      refine g_callP (v := muX3_endTry) (cx := []) C (k_X3_endTry (gl g) E b9 (nI (j + 1)) (sl j) (sc j) (sb j) (sc j + (dS cut (sc j)).toInt64) (cdB (ko i) (nI (j + 1)) tr (sc j + (dS cut (sc j)).toInt64) msg ml) L F hsL_b9 hsF_b9) [] rfl (by decide) hsL_b9 hsF_b9 rfl gi_X4_121 hd_X3_endTry ⟨Nat.le_of_ble_eq_true rfl, Nat.le_of_ble_eq_true rfl⟩ rfl rfl (Nat.le_of_ble_eq_true rfl) ⟨Nat.le_of_ble_eq_true rfl, Nat.le_of_ble_eq_true rfl⟩ dX4_verify_135 (fun r9 cx9 L9 F9 hp9 hf9 hN9 => ?_)
                      obtain ⟨rfl, rfl, rfl, rfl, -⟩ := hp9
                      show G g muX4_verify E A 0 0 Q [(xx, .inr (6, [.ref ka, .int (nI (nk)), .ref sa, .long (tr), .ref ma, .int (nI (ml)), .ref oa, .int (nI (on)), .ref ba, .ref h0, .ref c0])), (ka, aK E 16 (kr)), (sa, aS E 64 (sr)), (ma, aI E 300 (msg)), (h0, .inr (2, [.ref r0, .ref t0])), (r0, aI E 176 (f2)), (t0, aI E 16 (tn2)), (c0, .inr (3, [.ref h0, .ref k0, .ref x0, .int (fi2)])), (k0, aI E 16 (sk2)), (x0, aI E 16 (res2))] L (va_up F b9 (.inr (5, [.int (nI (j + 1)), .long (if (cdB (ko i) (nI (j + 1)) tr (sc j + (dS cut (sc j)).toInt64) msg ml) then (sc j + (dS cut (sc j)).toInt64) else (sc j)), .int (nI (if (cdB (ko i) (nI (j + 1)) tr (sc j + (dS cut (sc j)).toInt64) msg ml) then 0 else (sb j) + 1)), .int (sl j)]))) 138 [(7, .long ((sc j) + ((dS cut (sc j)).toInt64))), (6, .int (dS cut (sc j))), (5, .ref b9), (4, .ref a), (0, .ref xx), (1, .int (k)), (2, .int (id)), (3, .int (cut))] [.int (b2 (cdB (ko i) (nI (j + 1)) tr (sc j + (dS cut (sc j)).toInt64) msg ml))]
                      refine g_istore (lv' := [(9, .int (b2 (cdB (ko i) (nI (j + 1)) tr (sc j + (dS cut (sc j)).toInt64) msg ml))), (7, .long ((sc j) + ((dS cut (sc j)).toInt64))), (6, .int (dS cut (sc j))), (5, .ref b9), (4, .ref a), (0, .ref xx), (1, .int (k)), (2, .int (id)), (3, .int (cut))]) C dX4_verify_138 (by decide) rfl ?_
                      refine g_aload_n C dX4_verify_140 rfl 5 rfl ?_
                      refine g_callV (v := muX4_emptyMessage) (cx := [(xx, .inr (6, [.ref ka, .int (nI (nk)), .ref sa, .long (tr), .ref ma, .int (nI (ml)), .ref oa, .int (nI (on)), .ref ba, .ref h0, .ref c0]))]) C (k_X4_emptyMessage (gl g) E xx ka sa ma oa ba h0 c0 nk ml on tr L (va_up F b9 (.inr (5, [.int (nI (j + 1)), .long (if (cdB (ko i) (nI (j + 1)) tr (sc j + (dS cut (sc j)).toInt64) msg ml) then (sc j + (dS cut (sc j)).toInt64) else (sc j)), .int (nI (if (cdB (ko i) (nI (j + 1)) tr (sc j + (dS cut (sc j)).toInt64) msg ml) then 0 else (sb j) + 1)), .int (sl j)]))) ) [0] rfl (by decide) 0 rfl rfl gi_X4_76 hd_X4_emptyMessage ⟨Nat.le_of_ble_eq_true rfl, Nat.le_of_ble_eq_true rfl⟩ rfl rfl (Nat.le_of_ble_eq_true rfl) ⟨Nat.le_of_ble_eq_true rfl, Nat.le_of_ble_eq_true rfl⟩ dX4_verify_141 (fun r9 cx9 L9 F9 hp9 hf9 hN9 => ?_)
                      obtain ⟨rfl, rfl, rfl, rfl, -⟩ := hp9
                      show G g muX4_verify E A 0 0 Q [(xx, .inr (6, [.ref ka, .int (nI (nk)), .ref sa, .long (tr), .ref ma, .int (nI (0)), .ref oa, .int (nI (on)), .ref ba, .ref h0, .ref c0])), (ka, aK E 16 (kr)), (sa, aS E 64 (sr)), (ma, aI E 300 (msg)), (h0, .inr (2, [.ref r0, .ref t0])), (r0, aI E 176 (f2)), (t0, aI E 16 (tn2)), (c0, .inr (3, [.ref h0, .ref k0, .ref x0, .int (fi2)])), (k0, aI E 16 (sk2)), (x0, aI E 16 (res2))] L (va_up F b9 (.inr (5, [.int (nI (j + 1)), .long (if (cdB (ko i) (nI (j + 1)) tr (sc j + (dS cut (sc j)).toInt64) msg ml) then (sc j + (dS cut (sc j)).toInt64) else (sc j)), .int (nI (if (cdB (ko i) (nI (j + 1)) tr (sc j + (dS cut (sc j)).toInt64) msg ml) then 0 else (sb j) + 1)), .int (sl j)]))) 144 [(9, .int (b2 (cdB (ko i) (nI (j + 1)) tr (sc j + (dS cut (sc j)).toInt64) msg ml))), (7, .long ((sc j) + ((dS cut (sc j)).toInt64))), (6, .int (dS cut (sc j))), (5, .ref b9), (4, .ref a), (0, .ref xx), (1, .int (k)), (2, .int (id)), (3, .int (cut))] []
                      refine g_iload C dX4_verify_144 0 rfl ?_
                      exact g_iret C r rfl ⟨b2 (cdB (ko i) (nI (j + 1)) tr (sc j + (dS cut (sc j)).toInt64) msg ml), 0, va_up F b9 (.inr (5, [.int (nI (j + 1)), .long (if (cdB (ko i) (nI (j + 1)) tr (sc j + (dS cut (sc j)).toInt64) msg ml) then (sc j + (dS cut (sc j)).toInt64) else (sc j)), .int (nI (if (cdB (ko i) (nI (j + 1)) tr (sc j + (dS cut (sc j)).toInt64) msg ml) then 0 else (sb j) + 1)), .int (sl j)])), va_up sc j (if cdB (ko i) (nI (j + 1)) tr (sc j + (dS cut (sc j)).toInt64) msg ml then sc j + (dS cut (sc j)).toInt64 else sc j), va_up sb j (if cdB (ko i) (nI (j + 1)) tr (sc j + (dS cut (sc j)).toInt64) msg ml then 0 else sb j + 1), f2, tn2, sk2, res2, fi2, rfl, rfl, rfl, rfl, ps_3 (sset_b9 _ _ (sl j)), by unfold vfS; simp only [hkf, hsf, if_neg c27, if_pos c34, if_pos hm, if_neg hbl, if_pos c63, if_neg c90, if_neg c103, if_pos c112]⟩ rfl nN dX4_verify_146
                    · skip
                      rw [lg_cmp_le] at c112
                      refine g_iconst (v := nI (2)) C dX4_verify_115 (by decide) ?_
                      refine g_istore (lv' := [(9, .int (nI (2))), (7, .long ((sc j) + ((dS cut (sc j)).toInt64))), (6, .int (dS cut (sc j))), (5, .ref b9), (4, .ref a), (0, .ref xx), (1, .int (k)), (2, .int (id)), (3, .int (cut))]) C dX4_verify_116 (by decide) rfl ?_
                      refine g_goto (tgt := 140) C dX4_verify_118 (by decide) ?_
                      refine g_aload_n C dX4_verify_140 rfl 5 rfl ?_
                      refine g_callV (v := muX4_emptyMessage) (cx := [(xx, .inr (6, [.ref ka, .int (nI (nk)), .ref sa, .long (tr), .ref ma, .int (nI (ml)), .ref oa, .int (nI (on)), .ref ba, .ref h0, .ref c0]))]) C (k_X4_emptyMessage (gl g) E xx ka sa ma oa ba h0 c0 nk ml on tr L F ) [0] rfl (by decide) 0 rfl rfl gi_X4_76 hd_X4_emptyMessage ⟨Nat.le_of_ble_eq_true rfl, Nat.le_of_ble_eq_true rfl⟩ rfl rfl (Nat.le_of_ble_eq_true rfl) ⟨Nat.le_of_ble_eq_true rfl, Nat.le_of_ble_eq_true rfl⟩ dX4_verify_141 (fun r9 cx9 L9 F9 hp9 hf9 hN9 => ?_)
                      obtain ⟨rfl, rfl, rfl, rfl, -⟩ := hp9
                      show G g muX4_verify E A 0 0 Q [(xx, .inr (6, [.ref ka, .int (nI (nk)), .ref sa, .long (tr), .ref ma, .int (nI (0)), .ref oa, .int (nI (on)), .ref ba, .ref h0, .ref c0])), (ka, aK E 16 (kr)), (sa, aS E 64 (sr)), (ma, aI E 300 (msg)), (h0, .inr (2, [.ref r0, .ref t0])), (r0, aI E 176 (f)), (t0, aI E 16 (tn)), (c0, .inr (3, [.ref h0, .ref k0, .ref x0, .int (fi)])), (k0, aI E 16 (sk)), (x0, aI E 16 (res))] L F 144 [(9, .int (nI (2))), (7, .long ((sc j) + ((dS cut (sc j)).toInt64))), (6, .int (dS cut (sc j))), (5, .ref b9), (4, .ref a), (0, .ref xx), (1, .int (k)), (2, .int (id)), (3, .int (cut))] []
                      refine g_iload C dX4_verify_144 0 rfl ?_
                      exact g_iret C r rfl ⟨nI 2, 0, F, sc, sb, f, tn, sk, res, fi, rfl, rfl, rfl, rfl, hPS, by unfold vfS; simp only [hkf, hsf, if_neg c27, if_pos c34, if_pos hm, if_neg hbl, if_pos c63, if_neg c90, if_neg c103, if_neg c112]⟩ rfl nN dX4_verify_146
                · skip
                  refine g_iconst (v := nI (0)) C dX4_verify_93 (by decide) ?_
                  refine g_istore (lv' := [(9, .int (nI (0))), (7, .long ((sc j) + ((dS cut (sc j)).toInt64))), (6, .int (dS cut (sc j))), (5, .ref b9), (4, .ref a), (0, .ref xx), (1, .int (k)), (2, .int (id)), (3, .int (cut))]) C dX4_verify_94 (by decide) rfl ?_
                  refine g_goto (tgt := 140) C dX4_verify_96 (by decide) ?_
                  refine g_aload_n C dX4_verify_140 rfl 5 rfl ?_
                  refine g_callV (v := muX4_emptyMessage) (cx := [(xx, .inr (6, [.ref ka, .int (nI (nk)), .ref sa, .long (tr), .ref ma, .int (nI (ml)), .ref oa, .int (nI (on)), .ref ba, .ref h0, .ref c0]))]) C (k_X4_emptyMessage (gl g) E xx ka sa ma oa ba h0 c0 nk ml on tr L F ) [0] rfl (by decide) 0 rfl rfl gi_X4_76 hd_X4_emptyMessage ⟨Nat.le_of_ble_eq_true rfl, Nat.le_of_ble_eq_true rfl⟩ rfl rfl (Nat.le_of_ble_eq_true rfl) ⟨Nat.le_of_ble_eq_true rfl, Nat.le_of_ble_eq_true rfl⟩ dX4_verify_141 (fun r9 cx9 L9 F9 hp9 hf9 hN9 => ?_)
                  obtain ⟨rfl, rfl, rfl, rfl, -⟩ := hp9
                  show G g muX4_verify E A 0 0 Q [(xx, .inr (6, [.ref ka, .int (nI (nk)), .ref sa, .long (tr), .ref ma, .int (nI (0)), .ref oa, .int (nI (on)), .ref ba, .ref h0, .ref c0])), (ka, aK E 16 (kr)), (sa, aS E 64 (sr)), (ma, aI E 300 (msg)), (h0, .inr (2, [.ref r0, .ref t0])), (r0, aI E 176 (f)), (t0, aI E 16 (tn)), (c0, .inr (3, [.ref h0, .ref k0, .ref x0, .int (fi)])), (k0, aI E 16 (sk)), (x0, aI E 16 (res))] L F 144 [(9, .int (nI (0))), (7, .long ((sc j) + ((dS cut (sc j)).toInt64))), (6, .int (dS cut (sc j))), (5, .ref b9), (4, .ref a), (0, .ref xx), (1, .int (k)), (2, .int (id)), (3, .int (cut))] []
                  refine g_iload C dX4_verify_144 0 rfl ?_
                  exact g_iret C r rfl ⟨nI 0, 0, F, sc, sb, f, tn, sk, res, fi, rfl, rfl, rfl, rfl, hPS, by unfold vfS; simp only [hkf, hsf, if_neg c27, if_pos c34, if_pos hm, if_neg hbl, if_pos c63, if_pos c90]⟩ rfl nN dX4_verify_146
              · skip
                refine g_bipush (v := (-3 : Int32)) C dX4_verify_66 (by decide) ?_
                exact g_iret C r rfl ⟨-3, ml, F, sc, sb, f, tn, sk, res, fi, rfl, rfl, rfl, rfl, hPS, by unfold vfS; simp only [hkf, hsf, if_neg c27, if_pos c34, if_pos hm, if_neg hbl, if_neg (show ¬ 8 ≤ ml by omega)]⟩ rfl nN dX4_verify_68
        · skip
          refine g_bipush (v := (-2 : Int32)) C dX4_verify_37 (by decide) ?_
          exact g_iret C r rfl ⟨-2, ml, F, sc, sb, f, tn, sk, res, fi, rfl, rfl, rfl, rfl, hPS, by unfold vfS; simp only [hkf, hsf, if_neg c27, if_neg c34]⟩ rfl nN dX4_verify_39
abbrev muX4_install : Mu := (cX4_install, 8, RX4, (some .int), "install", 6, 0, 0, 137)
theorem hd_X4_install : yX4_install.cls = RX4 ∧ yX4_install.cls ≠ "java/lang/invoke/MethodHandle" ∧ yX4_install.cls ≠ "java/lang/invoke/VarHandle" ∧ (parseMethodDescriptor yX4_install.desc).map (fun d => d.parameters.length) = some 3 := by decide +kernel
set_option maxHeartbeats 4000000 in
set_option maxRecDepth 100000 in
theorem k_X4_install (l : Launch) (E : Ev) (xx ka sa ma oa ba h0 c0 nk ml on : Nat) (tr : Int64) (kr sr : Nat → Option Nat) (ko : Nat → Nat → Int32) (kn : Nat → Nat) (kc sc : Nat → Int64) (sb : Nat → Nat) (sl : Nat → Int32) (r0 t0 k0 x0 : Nat) (f tn sk res : Nat → Int32) (fi : Int32) (bl msg : Nat → Int32) (k w : Int32) (c : Int64) (L : List Nat) (F : Nat → va_E) (hnk : nk ≤ 16) (hml : ml ≤ 300) (hPS : PS E L F kr sr nk ko kn kc sc sb sl) : KC l E yX4_install muX4_install [.ref xx, .int (k), .int (w), .long (c)] [(xx, .inr (6, [.ref ka, .int (nI (nk)), .ref sa, .long (tr), .ref ma, .int (nI (ml)), .ref oa, .int (nI (on)), .ref ba, .ref h0, .ref c0])), (ka, aK E 16 (kr)), (ma, aI E 300 (msg)), (ba, aI E 16 (bl)), (h0, .inr (2, [.ref r0, .ref t0])), (r0, aI E 176 (f)), (t0, aI E 16 (tn)), (c0, .inr (3, [.ref h0, .ref k0, .ref x0, .int (fi)])), (k0, aI E 16 (sk)), (x0, aI E 16 (res))] L F (fun r8 cx8 L8 F8 => ∃ (r1 : Int32) (ml1 : Nat) (F1 : Nat → va_E) (ko1 : Nat → Nat → Int32) (kn1 : Nat → Nat) (kc1 : Nat → Int64) (f1 tn1 sk1 res1 : Nat → Int32) (fi1 : Int32) (bl1 : Nat → Int32), r8 = some (.int (r1)) ∧ cx8 = [(xx, .inr (6, [.ref ka, .int (nI (nk)), .ref sa, .long (tr), .ref ma, .int (nI (ml1)), .ref oa, .int (nI (on)), .ref ba, .ref h0, .ref c0])), (ka, aK E 16 (kr)), (ma, aI E 300 (msg)), (ba, aI E 16 (bl1)), (h0, .inr (2, [.ref r0, .ref t0])), (r0, aI E 176 (f1)), (t0, aI E 16 (tn1)), (c0, .inr (3, [.ref h0, .ref k0, .ref x0, .int (fi1)])), (k0, aI E 16 (sk1)), (x0, aI E 16 (res1))] ∧ L = L8 ∧ F1 = F8 ∧ (PS E L F1 kr sr nk ko1 kn1 kc1 sc sb sl ∧ (r1, ml1, ko1, kn1, kc1) = isS nk ko kn kc ml msg k w c)) := by
  refine K_start (by decide) rfl rfl (Nat.le_of_ble_eq_true rfl) (fun g A Q hgl C r => ?_)
  subst hgl
  show G g muX4_install E A 0 0 Q [(xx, .inr (6, [.ref ka, .int (nI (nk)), .ref sa, .long (tr), .ref ma, .int (nI (ml)), .ref oa, .int (nI (on)), .ref ba, .ref h0, .ref c0])), (ka, aK E 16 (kr)), (ma, aI E 300 (msg)), (ba, aI E 16 (bl)), (h0, .inr (2, [.ref r0, .ref t0])), (r0, aI E 176 (f)), (t0, aI E 16 (tn)), (c0, .inr (3, [.ref h0, .ref k0, .ref x0, .int (fi)])), (k0, aI E 16 (sk)), (x0, aI E 16 (res))] L F 0 [(0, .ref xx), (1, .int (k)), (2, .int (w)), (3, .long (c))] []
  refine g_aload_n C dX4_install_0 rfl 0 rfl ?_
  refine g_iload_n C dX4_install_1 rfl 1 rfl ?_
  refine g_callV (v := muX4_findKey) (cx := [(xx, .inr (6, [.ref ka, .int (nI (nk)), .ref sa, .long (tr), .ref ma, .int (nI (ml)), .ref oa, .int (nI (on)), .ref ba, .ref h0, .ref c0])), (ka, aK E 16 (kr))]) C (k_X4_findKey (gl g) E xx ka sa ma oa ba h0 c0 nk ml on tr kr k L F hnk) [0, 1] rfl (by decide) 0 rfl rfl gi_X4_55 hd_X4_findKey ⟨Nat.le_of_ble_eq_true rfl, Nat.le_of_ble_eq_true rfl⟩ rfl rfl (Nat.le_of_ble_eq_true rfl) ⟨Nat.le_of_ble_eq_true rfl, Nat.le_of_ble_eq_true rfl⟩ dX4_install_2 (fun r9 cx9 L9 F9 hp9 hf9 hN9 => ?_)
  obtain ⟨rfl, rfl, rfl, rfl, -⟩ := hp9
  show G g muX4_install E A 0 0 Q [(xx, .inr (6, [.ref ka, .int (nI (nk)), .ref sa, .long (tr), .ref ma, .int (nI (ml)), .ref oa, .int (nI (on)), .ref ba, .ref h0, .ref c0])), (ka, aK E 16 (kr)), (ma, aI E 300 (msg)), (ba, aI E 16 (bl)), (h0, .inr (2, [.ref r0, .ref t0])), (r0, aI E 176 (f)), (t0, aI E 16 (tn)), (c0, .inr (3, [.ref h0, .ref k0, .ref x0, .int (fi)])), (k0, aI E 16 (sk)), (x0, aI E 16 (res))] L F 5 [(0, .ref xx), (1, .int (k)), (2, .int (w)), (3, .long (c))] [va_rf ((kf nk k).bind kr)]
  rcases hkf : kf nk k with _ | i
  · skip
    show G g muX4_install E A 0 0 Q [(xx, .inr (6, [.ref ka, .int (nI (nk)), .ref sa, .long (tr), .ref ma, .int (nI (ml)), .ref oa, .int (nI (on)), .ref ba, .ref h0, .ref c0])), (ka, aK E 16 (kr)), (ma, aI E 300 (msg)), (ba, aI E 16 (bl)), (h0, .inr (2, [.ref r0, .ref t0])), (r0, aI E 176 (f)), (t0, aI E 16 (tn)), (c0, .inr (3, [.ref h0, .ref k0, .ref x0, .int (fi)])), (k0, aI E 16 (sk)), (x0, aI E 16 (res))] L F 5 [(0, .ref xx), (1, .int (k)), (2, .int (w)), (3, .long (c))] [.null]
    refine g_astoreN (lv' := [(5, .null), (0, .ref xx), (1, .int (k)), (2, .int (w)), (3, .long (c))]) C dX4_install_5 (by decide) rfl ?_
    refine g_aload_n C dX4_install_7 rfl 1 rfl ?_
    refine g_iload_n C dX4_install_8 rfl 3 rfl ?_
    refine g_callV (v := muX4_findKey) (cx := [(xx, .inr (6, [.ref ka, .int (nI (nk)), .ref sa, .long (tr), .ref ma, .int (nI (ml)), .ref oa, .int (nI (on)), .ref ba, .ref h0, .ref c0])), (ka, aK E 16 (kr))]) C (k_X4_findKey (gl g) E xx ka sa ma oa ba h0 c0 nk ml on tr kr w L F hnk) [0, 1] rfl (by decide) 0 rfl rfl gi_X4_55 hd_X4_findKey ⟨Nat.le_of_ble_eq_true rfl, Nat.le_of_ble_eq_true rfl⟩ rfl rfl (Nat.le_of_ble_eq_true rfl) ⟨Nat.le_of_ble_eq_true rfl, Nat.le_of_ble_eq_true rfl⟩ dX4_install_9 (fun r9 cx9 L9 F9 hp9 hf9 hN9 => ?_)
    obtain ⟨rfl, rfl, rfl, rfl, -⟩ := hp9
    show G g muX4_install E A 0 0 Q [(xx, .inr (6, [.ref ka, .int (nI (nk)), .ref sa, .long (tr), .ref ma, .int (nI (ml)), .ref oa, .int (nI (on)), .ref ba, .ref h0, .ref c0])), (ka, aK E 16 (kr)), (ma, aI E 300 (msg)), (ba, aI E 16 (bl)), (h0, .inr (2, [.ref r0, .ref t0])), (r0, aI E 176 (f)), (t0, aI E 16 (tn)), (c0, .inr (3, [.ref h0, .ref k0, .ref x0, .int (fi)])), (k0, aI E 16 (sk)), (x0, aI E 16 (res))] L F 12 [(5, .null), (0, .ref xx), (1, .int (k)), (2, .int (w)), (3, .long (c))] [va_rf ((kf nk w).bind kr)]
    rcases hwf : kf nk w with _ | q
    · skip
      show G g muX4_install E A 0 0 Q [(xx, .inr (6, [.ref ka, .int (nI (nk)), .ref sa, .long (tr), .ref ma, .int (nI (ml)), .ref oa, .int (nI (on)), .ref ba, .ref h0, .ref c0])), (ka, aK E 16 (kr)), (ma, aI E 300 (msg)), (ba, aI E 16 (bl)), (h0, .inr (2, [.ref r0, .ref t0])), (r0, aI E 176 (f)), (t0, aI E 16 (tn)), (c0, .inr (3, [.ref h0, .ref k0, .ref x0, .int (fi)])), (k0, aI E 16 (sk)), (x0, aI E 16 (res))] L F 12 [(5, .null), (0, .ref xx), (1, .int (k)), (2, .int (w)), (3, .long (c))] [.null]
      refine g_astoreN (lv' := [(6, .null), (5, .null), (0, .ref xx), (1, .int (k)), (2, .int (w)), (3, .long (c))]) C dX4_install_12 (by decide) rfl ?_
      refine g_aloadN C dX4_install_14 1 rfl ?_
      refine g_ifnullN (tgt := 24) C dX4_install_16 (by decide) ?_
      refine g_iconst (v := (-1 : Int32)) C dX4_install_24 (by decide) ?_
      exact g_iret C r rfl ⟨-1, ml, F, ko, kn, kc, f, tn, sk, res, fi, bl, rfl, rfl, rfl, rfl, hPS, by unfold isS; simp only [hkf]⟩ rfl nN dX4_install_25
    · skip
      obtain ⟨hi_b, hke_b⟩ := kf_some (by omega) hwf
      obtain ⟨b, p, hkr_b, hkL_b, hkF_b, hoL_b, hoF_b, hkn_b, hne_b, hset2⟩ := hPS.key hi_b
      rw [show Option.bind (some q) kr = some b from hkr_b]
      show G g muX4_install E A 0 0 Q [(xx, .inr (6, [.ref ka, .int (nI (nk)), .ref sa, .long (tr), .ref ma, .int (nI (ml)), .ref oa, .int (nI (on)), .ref ba, .ref h0, .ref c0])), (ka, aK E 16 (kr)), (ma, aI E 300 (msg)), (ba, aI E 16 (bl)), (h0, .inr (2, [.ref r0, .ref t0])), (r0, aI E 176 (f)), (t0, aI E 16 (tn)), (c0, .inr (3, [.ref h0, .ref k0, .ref x0, .int (fi)])), (k0, aI E 16 (sk)), (x0, aI E 16 (res))] L F 12 [(5, .null), (0, .ref xx), (1, .int (k)), (2, .int (w)), (3, .long (c))] [.ref b]
      refine g_astore (lv' := [(6, .ref b), (5, .null), (0, .ref xx), (1, .int (k)), (2, .int (w)), (3, .long (c))]) C dX4_install_12 (by decide) rfl ?_
      refine g_aloadN C dX4_install_14 1 rfl ?_
      refine g_ifnullN (tgt := 24) C dX4_install_16 (by decide) ?_
      refine g_iconst (v := (-1 : Int32)) C dX4_install_24 (by decide) ?_
      exact g_iret C r rfl ⟨-1, ml, F, ko, kn, kc, f, tn, sk, res, fi, bl, rfl, rfl, rfl, rfl, hPS, by unfold isS; simp only [hkf]⟩ rfl nN dX4_install_25
  · skip
    obtain ⟨hi_a, hke_a⟩ := kf_some (by omega) hkf
    obtain ⟨a, o, hkr_a, hkL_a, hkF_a, hoL_a, hoF_a, hkn_a, hne_a, hset⟩ := hPS.key hi_a
    rw [show Option.bind (some i) kr = some a from hkr_a]
    show G g muX4_install E A 0 0 Q [(xx, .inr (6, [.ref ka, .int (nI (nk)), .ref sa, .long (tr), .ref ma, .int (nI (ml)), .ref oa, .int (nI (on)), .ref ba, .ref h0, .ref c0])), (ka, aK E 16 (kr)), (ma, aI E 300 (msg)), (ba, aI E 16 (bl)), (h0, .inr (2, [.ref r0, .ref t0])), (r0, aI E 176 (f)), (t0, aI E 16 (tn)), (c0, .inr (3, [.ref h0, .ref k0, .ref x0, .int (fi)])), (k0, aI E 16 (sk)), (x0, aI E 16 (res))] L F 5 [(0, .ref xx), (1, .int (k)), (2, .int (w)), (3, .long (c))] [.ref a]
    refine g_astore (lv' := [(5, .ref a), (0, .ref xx), (1, .int (k)), (2, .int (w)), (3, .long (c))]) C dX4_install_5 (by decide) rfl ?_
    refine g_aload_n C dX4_install_7 rfl 1 rfl ?_
    refine g_iload_n C dX4_install_8 rfl 3 rfl ?_
    refine g_callV (v := muX4_findKey) (cx := [(xx, .inr (6, [.ref ka, .int (nI (nk)), .ref sa, .long (tr), .ref ma, .int (nI (ml)), .ref oa, .int (nI (on)), .ref ba, .ref h0, .ref c0])), (ka, aK E 16 (kr))]) C (k_X4_findKey (gl g) E xx ka sa ma oa ba h0 c0 nk ml on tr kr w L F hnk) [0, 1] rfl (by decide) 0 rfl rfl gi_X4_55 hd_X4_findKey ⟨Nat.le_of_ble_eq_true rfl, Nat.le_of_ble_eq_true rfl⟩ rfl rfl (Nat.le_of_ble_eq_true rfl) ⟨Nat.le_of_ble_eq_true rfl, Nat.le_of_ble_eq_true rfl⟩ dX4_install_9 (fun r9 cx9 L9 F9 hp9 hf9 hN9 => ?_)
    obtain ⟨rfl, rfl, rfl, rfl, -⟩ := hp9
    show G g muX4_install E A 0 0 Q [(xx, .inr (6, [.ref ka, .int (nI (nk)), .ref sa, .long (tr), .ref ma, .int (nI (ml)), .ref oa, .int (nI (on)), .ref ba, .ref h0, .ref c0])), (ka, aK E 16 (kr)), (ma, aI E 300 (msg)), (ba, aI E 16 (bl)), (h0, .inr (2, [.ref r0, .ref t0])), (r0, aI E 176 (f)), (t0, aI E 16 (tn)), (c0, .inr (3, [.ref h0, .ref k0, .ref x0, .int (fi)])), (k0, aI E 16 (sk)), (x0, aI E 16 (res))] L F 12 [(5, .ref a), (0, .ref xx), (1, .int (k)), (2, .int (w)), (3, .long (c))] [va_rf ((kf nk w).bind kr)]
    rcases hwf : kf nk w with _ | q
    · skip
      show G g muX4_install E A 0 0 Q [(xx, .inr (6, [.ref ka, .int (nI (nk)), .ref sa, .long (tr), .ref ma, .int (nI (ml)), .ref oa, .int (nI (on)), .ref ba, .ref h0, .ref c0])), (ka, aK E 16 (kr)), (ma, aI E 300 (msg)), (ba, aI E 16 (bl)), (h0, .inr (2, [.ref r0, .ref t0])), (r0, aI E 176 (f)), (t0, aI E 16 (tn)), (c0, .inr (3, [.ref h0, .ref k0, .ref x0, .int (fi)])), (k0, aI E 16 (sk)), (x0, aI E 16 (res))] L F 12 [(5, .ref a), (0, .ref xx), (1, .int (k)), (2, .int (w)), (3, .long (c))] [.null]
      refine g_astoreN (lv' := [(6, .null), (5, .ref a), (0, .ref xx), (1, .int (k)), (2, .int (w)), (3, .long (c))]) C dX4_install_12 (by decide) rfl ?_
      refine g_aload C dX4_install_14 1 rfl ?_
      refine g_ifnull C dX4_install_16 ?_
      refine g_aloadN C dX4_install_19 0 rfl ?_
      refine g_ifnonnullN C dX4_install_21 ?_
      refine g_iconst (v := (-1 : Int32)) C dX4_install_24 (by decide) ?_
      exact g_iret C r rfl ⟨-1, ml, F, ko, kn, kc, f, tn, sk, res, fi, bl, rfl, rfl, rfl, rfl, hPS, by unfold isS; simp only [hkf, hwf, ]⟩ rfl nN dX4_install_25
    · skip
      obtain ⟨hi_b, hke_b⟩ := kf_some (by omega) hwf
      obtain ⟨b, p, hkr_b, hkL_b, hkF_b, hoL_b, hoF_b, hkn_b, hne_b, hset2⟩ := hPS.key hi_b
      rw [show Option.bind (some q) kr = some b from hkr_b]
      show G g muX4_install E A 0 0 Q [(xx, .inr (6, [.ref ka, .int (nI (nk)), .ref sa, .long (tr), .ref ma, .int (nI (ml)), .ref oa, .int (nI (on)), .ref ba, .ref h0, .ref c0])), (ka, aK E 16 (kr)), (ma, aI E 300 (msg)), (ba, aI E 16 (bl)), (h0, .inr (2, [.ref r0, .ref t0])), (r0, aI E 176 (f)), (t0, aI E 16 (tn)), (c0, .inr (3, [.ref h0, .ref k0, .ref x0, .int (fi)])), (k0, aI E 16 (sk)), (x0, aI E 16 (res))] L F 12 [(5, .ref a), (0, .ref xx), (1, .int (k)), (2, .int (w)), (3, .long (c))] [.ref b]
      refine g_astore (lv' := [(6, .ref b), (5, .ref a), (0, .ref xx), (1, .int (k)), (2, .int (w)), (3, .long (c))]) C dX4_install_12 (by decide) rfl ?_
      refine g_aload C dX4_install_14 1 rfl ?_
      refine g_ifnull C dX4_install_16 ?_
      refine g_aload C dX4_install_19 0 rfl ?_
      refine g_ifnonnull (tgt := 26) C dX4_install_21 (by decide) ?_
      refine g_lload_n C dX4_install_26 rfl 5 rfl ?_
      refine g_lconst (v := 0) C dX4_install_27 (by decide) ?_
      refine g_lcmp C dX4_install_28 ?_
      refine g_if_ge (tgt := 35) C dX4_install_29 (by decide) (fun c29 => ?_) (fun c29 => ?_)
      · skip
        rw [lg_cmp_ge] at c29
        refine g_aload_n C dX4_install_35 rfl 2 rfl ?_
        refine g_getX C 0 rfl rfl inX4 5 (by decide) m_87 rfl dX4_install_36 ?_
        refine g_bipush (v := nI (24)) C dX4_install_39 (by decide) ?_
        refine g_nicmp_eq (tgt := 47) C dX4_install_41 (by decide) (by omega) (by omega) (fun c41 => ?_) (fun c41 => ?_)
        · skip
          refine g_lload_n C dX4_install_47 rfl 5 rfl ?_
          refine g_aload C dX4_install_48 1 rfl ?_
          refine g_getP C hkL_a hkF_a rfl inX2 2 (by decide) m_130 rfl dX4_install_50 ?_
          refine g_lcmp C dX4_install_53 ?_
          refine g_if_le (tgt := 71) C dX4_install_54 (by decide) (fun c54 => ?_) (fun c54 => ?_)
          · skip
            rw [lg_cmp_le] at c54
            refine g_iconst (v := nI (0)) C dX4_install_71 (by decide) ?_
            refine g_istore (lv' := [(7, .int (nI (0))), (6, .ref b), (5, .ref a), (0, .ref xx), (1, .int (k)), (2, .int (w)), (3, .long (c))]) C dX4_install_72 (by decide) rfl ?_
            refine g_iload C dX4_install_74 0 rfl ?_
            refine g_nif_eq (tgt := 88) C dX4_install_76 (by decide) (by omega) (fun c76 => ?_) (fun c76 => ?_)
            · skip
              refine g_aload_n C dX4_install_88 rfl 3 rfl ?_
              refine g_callV (v := muX4_emptyMessage) (cx := [(xx, .inr (6, [.ref ka, .int (nI (nk)), .ref sa, .long (tr), .ref ma, .int (nI (ml)), .ref oa, .int (nI (on)), .ref ba, .ref h0, .ref c0]))]) C (k_X4_emptyMessage (gl g) E xx ka sa ma oa ba h0 c0 nk ml on tr L F ) [0] rfl (by decide) 0 rfl rfl gi_X4_76 hd_X4_emptyMessage ⟨Nat.le_of_ble_eq_true rfl, Nat.le_of_ble_eq_true rfl⟩ rfl rfl (Nat.le_of_ble_eq_true rfl) ⟨Nat.le_of_ble_eq_true rfl, Nat.le_of_ble_eq_true rfl⟩ dX4_install_89 (fun r9 cx9 L9 F9 hp9 hf9 hN9 => ?_)
              obtain ⟨rfl, rfl, rfl, rfl, -⟩ := hp9
              show G g muX4_install E A 0 0 Q [(xx, .inr (6, [.ref ka, .int (nI (nk)), .ref sa, .long (tr), .ref ma, .int (nI (0)), .ref oa, .int (nI (on)), .ref ba, .ref h0, .ref c0])), (ka, aK E 16 (kr)), (ma, aI E 300 (msg)), (ba, aI E 16 (bl)), (h0, .inr (2, [.ref r0, .ref t0])), (r0, aI E 176 (f)), (t0, aI E 16 (tn)), (c0, .inr (3, [.ref h0, .ref k0, .ref x0, .int (fi)])), (k0, aI E 16 (sk)), (x0, aI E 16 (res))] L F 92 [(7, .int (nI (0))), (6, .ref b), (5, .ref a), (0, .ref xx), (1, .int (k)), (2, .int (w)), (3, .long (c))] []
              refine g_iload C dX4_install_92 0 rfl ?_
              refine g_nif_eq (tgt := 101) C dX4_install_94 (by decide) (by omega) (fun c94 => ?_) (fun c94 => ?_)
              · skip
                refine g_iconst (v := nI (0)) C dX4_install_101 (by decide) ?_
                exact g_iret C r rfl ⟨nI 0, 0, F, ko, kn, kc, f, tn, sk, res, fi, bl, rfl, rfl, rfl, rfl, hPS, by unfold isS; simp only [hkf, hwf, if_pos c29, if_pos c41, if_pos c54]⟩ rfl nN dX4_install_102
              · skip
                exact absurd rfl c94
            · skip
              exact absurd rfl c76
          · skip
            rw [lg_cmp_le] at c54
            refine g_aload_n C dX4_install_57 rfl 2 rfl ?_
            refine g_aload C dX4_install_58 0 rfl ?_
            refine g_lload_n C dX4_install_60 rfl 5 rfl ?_
            refine g_callV (v := muX4_isWrappedKey) (cx := [(xx, .inr (6, [.ref ka, .int (nI (nk)), .ref sa, .long (tr), .ref ma, .int (nI (ml)), .ref oa, .int (nI (on)), .ref ba, .ref h0, .ref c0])), (ma, aI E 300 (msg)), (h0, .inr (2, [.ref r0, .ref t0])), (r0, aI E 176 (f)), (t0, aI E 16 (tn)), (c0, .inr (3, [.ref h0, .ref k0, .ref x0, .int (fi)])), (k0, aI E 16 (sk)), (x0, aI E 16 (res))]) C (k_X4_isWrappedKey (gl g) E xx ka sa ma oa ba h0 c0 nk ml on tr r0 t0 k0 x0 f tn sk res fi msg b p (ko q) (nI (kn q)) (kc q) c L F hkL_b hkF_b hoL_b hoF_b) [0, 2, 4, 5, 6, 7, 8, 9] rfl (by decide) 0 rfl rfl gi_X4_126 hd_X4_isWrappedKey ⟨Nat.le_of_ble_eq_true rfl, Nat.le_of_ble_eq_true rfl⟩ rfl rfl (Nat.le_of_ble_eq_true rfl) ⟨Nat.le_of_ble_eq_true rfl, Nat.le_of_ble_eq_true rfl⟩ dX4_install_61 (fun r9 cx9 L9 F9 hp9 hf9 hN9 => ?_)
            obtain ⟨f2, tn2, sk2, res2, fi2, rfl, rfl, rfl, rfl, -⟩ := hp9
            show G g muX4_install E A 0 0 Q [(xx, .inr (6, [.ref ka, .int (nI (nk)), .ref sa, .long (tr), .ref ma, .int (nI (ml)), .ref oa, .int (nI (on)), .ref ba, .ref h0, .ref c0])), (ka, aK E 16 (kr)), (ma, aI E 300 (msg)), (ba, aI E 16 (bl)), (h0, .inr (2, [.ref r0, .ref t0])), (r0, aI E 176 (f2)), (t0, aI E 16 (tn2)), (c0, .inr (3, [.ref h0, .ref k0, .ref x0, .int (fi2)])), (k0, aI E 16 (sk2)), (x0, aI E 16 (res2))] L F 64 [(6, .ref b), (5, .ref a), (0, .ref xx), (1, .int (k)), (2, .int (w)), (3, .long (c))] [.int (b2 (wrB (ko q) c msg))]
            refine g_if_eq (tgt := 71) C dX4_install_64 (by decide) (fun c64 => ?_) (fun c64 => ?_)
            · skip
              have hw9 : ¬ wrB (ko q) c msg = true := by rw [b2_f c64]; exact Bool.false_ne_true
              refine g_iconst (v := nI (0)) C dX4_install_71 (by decide) ?_
              refine g_istore (lv' := [(7, .int (nI (0))), (6, .ref b), (5, .ref a), (0, .ref xx), (1, .int (k)), (2, .int (w)), (3, .long (c))]) C dX4_install_72 (by decide) rfl ?_
              refine g_iload C dX4_install_74 0 rfl ?_
              refine g_nif_eq (tgt := 88) C dX4_install_76 (by decide) (by omega) (fun c76 => ?_) (fun c76 => ?_)
              · skip
                refine g_aload_n C dX4_install_88 rfl 3 rfl ?_
                refine g_callV (v := muX4_emptyMessage) (cx := [(xx, .inr (6, [.ref ka, .int (nI (nk)), .ref sa, .long (tr), .ref ma, .int (nI (ml)), .ref oa, .int (nI (on)), .ref ba, .ref h0, .ref c0]))]) C (k_X4_emptyMessage (gl g) E xx ka sa ma oa ba h0 c0 nk ml on tr L F ) [0] rfl (by decide) 0 rfl rfl gi_X4_76 hd_X4_emptyMessage ⟨Nat.le_of_ble_eq_true rfl, Nat.le_of_ble_eq_true rfl⟩ rfl rfl (Nat.le_of_ble_eq_true rfl) ⟨Nat.le_of_ble_eq_true rfl, Nat.le_of_ble_eq_true rfl⟩ dX4_install_89 (fun r9 cx9 L9 F9 hp9 hf9 hN9 => ?_)
                obtain ⟨rfl, rfl, rfl, rfl, -⟩ := hp9
                show G g muX4_install E A 0 0 Q [(xx, .inr (6, [.ref ka, .int (nI (nk)), .ref sa, .long (tr), .ref ma, .int (nI (0)), .ref oa, .int (nI (on)), .ref ba, .ref h0, .ref c0])), (ka, aK E 16 (kr)), (ma, aI E 300 (msg)), (ba, aI E 16 (bl)), (h0, .inr (2, [.ref r0, .ref t0])), (r0, aI E 176 (f2)), (t0, aI E 16 (tn2)), (c0, .inr (3, [.ref h0, .ref k0, .ref x0, .int (fi2)])), (k0, aI E 16 (sk2)), (x0, aI E 16 (res2))] L F 92 [(7, .int (nI (0))), (6, .ref b), (5, .ref a), (0, .ref xx), (1, .int (k)), (2, .int (w)), (3, .long (c))] []
                refine g_iload C dX4_install_92 0 rfl ?_
                refine g_nif_eq (tgt := 101) C dX4_install_94 (by decide) (by omega) (fun c94 => ?_) (fun c94 => ?_)
                · skip
                  refine g_iconst (v := nI (0)) C dX4_install_101 (by decide) ?_
                  exact g_iret C r rfl ⟨nI 0, 0, F, ko, kn, kc, f2, tn2, sk2, res2, fi2, bl, rfl, rfl, rfl, rfl, hPS, by unfold isS; simp only [hkf, hwf, if_pos c29, if_pos c41, if_neg c54, if_neg hw9]⟩ rfl nN dX4_install_102
                · skip
                  exact absurd rfl c94
              · skip
                exact absurd rfl c76
            · skip
              have hw9 := b2_t c64
              refine g_iconst (v := nI (1)) C dX4_install_67 (by decide) ?_
              refine g_goto (tgt := 72) C dX4_install_68 (by decide) ?_
              refine g_istore (lv' := [(7, .int (nI (1))), (6, .ref b), (5, .ref a), (0, .ref xx), (1, .int (k)), (2, .int (w)), (3, .long (c))]) C dX4_install_72 (by decide) rfl ?_
              refine g_iload C dX4_install_74 0 rfl ?_
              refine g_nif_eq (tgt := 88) C dX4_install_76 (by decide) (by omega) (fun c76 => ?_) (fun c76 => ?_)
              · skip
                exact absurd c76 (by omega)
              · skip
                refine g_aload_n C dX4_install_79 rfl 3 rfl ?_
                refine g_aload C dX4_install_80 2 rfl ?_
                refine g_aload C dX4_install_82 1 rfl ?_
                refine g_lload_n C dX4_install_84 rfl 6 rfl ?_
                refine g_callV (v := muX4_unwrap) (cx := [(xx, .inr (6, [.ref ka, .int (nI (nk)), .ref sa, .long (tr), .ref ma, .int (nI (ml)), .ref oa, .int (nI (on)), .ref ba, .ref h0, .ref c0])), (ma, aI E 300 (msg)), (ba, aI E 16 (bl)), (h0, .inr (2, [.ref r0, .ref t0])), (r0, aI E 176 (f2)), (t0, aI E 16 (tn2))]) C (k_X4_unwrap (gl g) E xx ka sa ma oa ba h0 c0 nk ml on tr kr sr ko kn kc sc sb sl r0 t0 f2 tn2 bl msg a b i q c L F hPS hi_a hi_b hkr_a hkr_b) [0, 2, 3, 4, 5, 6] rfl (by decide) 0 rfl rfl gi_X4_130 hd_X4_unwrap ⟨Nat.le_of_ble_eq_true rfl, Nat.le_of_ble_eq_true rfl⟩ rfl rfl (Nat.le_of_ble_eq_true rfl) ⟨Nat.le_of_ble_eq_true rfl, Nat.le_of_ble_eq_true rfl⟩ dX4_install_85 (fun r9 cx9 L9 F9 hp9 hf9 hN9 => ?_)
                obtain ⟨F9, f3, tn3, bl3, rfl, rfl, rfl, rfl, hP9⟩ := hp9
                show G g muX4_install E A 0 0 Q [(xx, .inr (6, [.ref ka, .int (nI (nk)), .ref sa, .long (tr), .ref ma, .int (nI (ml)), .ref oa, .int (nI (on)), .ref ba, .ref h0, .ref c0])), (ka, aK E 16 (kr)), (ma, aI E 300 (msg)), (ba, aI E 16 (bl3)), (h0, .inr (2, [.ref r0, .ref t0])), (r0, aI E 176 (f3)), (t0, aI E 16 (tn3)), (c0, .inr (3, [.ref h0, .ref k0, .ref x0, .int (fi2)])), (k0, aI E 16 (sk2)), (x0, aI E 16 (res2))] L F9 88 [(7, .int (nI (1))), (6, .ref b), (5, .ref a), (0, .ref xx), (1, .int (k)), (2, .int (w)), (3, .long (c))] []
                refine g_aload_n C dX4_install_88 rfl 3 rfl ?_
                refine g_callV (v := muX4_emptyMessage) (cx := [(xx, .inr (6, [.ref ka, .int (nI (nk)), .ref sa, .long (tr), .ref ma, .int (nI (ml)), .ref oa, .int (nI (on)), .ref ba, .ref h0, .ref c0]))]) C (k_X4_emptyMessage (gl g) E xx ka sa ma oa ba h0 c0 nk ml on tr L F9 ) [0] rfl (by decide) 0 rfl rfl gi_X4_76 hd_X4_emptyMessage ⟨Nat.le_of_ble_eq_true rfl, Nat.le_of_ble_eq_true rfl⟩ rfl rfl (Nat.le_of_ble_eq_true rfl) ⟨Nat.le_of_ble_eq_true rfl, Nat.le_of_ble_eq_true rfl⟩ dX4_install_89 (fun r9 cx9 L9 F9 hp9 hf9 hN9 => ?_)
                obtain ⟨rfl, rfl, rfl, rfl, -⟩ := hp9
                show G g muX4_install E A 0 0 Q [(xx, .inr (6, [.ref ka, .int (nI (nk)), .ref sa, .long (tr), .ref ma, .int (nI (0)), .ref oa, .int (nI (on)), .ref ba, .ref h0, .ref c0])), (ka, aK E 16 (kr)), (ma, aI E 300 (msg)), (ba, aI E 16 (bl3)), (h0, .inr (2, [.ref r0, .ref t0])), (r0, aI E 176 (f3)), (t0, aI E 16 (tn3)), (c0, .inr (3, [.ref h0, .ref k0, .ref x0, .int (fi2)])), (k0, aI E 16 (sk2)), (x0, aI E 16 (res2))] L F9 92 [(7, .int (nI (1))), (6, .ref b), (5, .ref a), (0, .ref xx), (1, .int (k)), (2, .int (w)), (3, .long (c))] []
                refine g_iload C dX4_install_92 0 rfl ?_
                refine g_nif_eq (tgt := 101) C dX4_install_94 (by decide) (by omega) (fun c94 => ?_) (fun c94 => ?_)
                · skip
                  exact absurd c94 (by omega)
                · skip
                  refine g_iconst (v := nI (1)) C dX4_install_97 (by decide) ?_
                  refine g_goto (tgt := 102) C dX4_install_98 (by decide) ?_
                  exact g_iret C r rfl ⟨nI 1, 0, F9, va_up ko i (fun j => msg j ^^^ ENC (ko q) (pneF (fun _ => nI 0) c) j), va_up kn i 0, va_up kc i c, f3, tn3, sk2, res2, fi2, bl3, rfl, rfl, rfl, rfl, hP9, by unfold isS; simp only [hkf, hwf, if_pos c29, if_pos c41, if_neg c54, if_pos hw9]⟩ rfl nN dX4_install_102
        · skip
          refine g_bipush (v := (-3 : Int32)) C dX4_install_44 (by decide) ?_
          exact g_iret C r rfl ⟨-3, ml, F, ko, kn, kc, f, tn, sk, res, fi, bl, rfl, rfl, rfl, rfl, hPS, by unfold isS; simp only [hkf, hwf, if_pos c29, if_neg c41]⟩ rfl nN dX4_install_46
      · skip
        rw [lg_cmp_ge] at c29
        refine g_bipush (v := (-2 : Int32)) C dX4_install_32 (by decide) ?_
        exact g_iret C r rfl ⟨-2, ml, F, ko, kn, kc, f, tn, sk, res, fi, bl, rfl, rfl, rfl, rfl, hPS, by unfold isS; simp only [hkf, hwf, if_neg c29]⟩ rfl nN dX4_install_34
abbrev muX4_init : Mu := (cX4_init, 2, RX4, none, "<init>", 2, 75, 898, 41)
theorem hd_X4_init : yX4_init.cls = RX4 ∧ yX4_init.cls ≠ "java/lang/invoke/MethodHandle" ∧ yX4_init.cls ≠ "java/lang/invoke/VarHandle" ∧ (parseMethodDescriptor yX4_init.desc).map (fun d => d.parameters.length) = some 0 := by decide +kernel
set_option maxHeartbeats 4000000 in
set_option maxRecDepth 100000 in
theorem k_X4_init (l : Launch) (E : Ev) (xx : Nat) (L : List Nat) (F : Nat → va_E)  : KC l E yX4_init muX4_init [.ref xx] [(xx, .inr (6, [.null, .int (0), .null, .long (0), .null, .int (0), .null, .int (0), .null, .null, .null]))] L F (fun r8 cx8 L8 F8 => ∃ (ka sa ma oa ba h0 r0 t0 c0 k0 x0 : Nat) (sr : Nat → Option Nat) (L1 : List Nat) (F1 : Nat → va_E), r8 = none ∧ cx8 = [(xx, .inr (6, [.ref ka, .int (0), .ref sa, .long (0), .ref ma, .int (0), .ref oa, .int (0), .ref ba, .ref h0, .ref c0]))] ∧ L1 ++ [x0] ++ [k0] ++ [c0] ++ [t0] ++ [r0] ++ [h0] ++ [ba] ++ [oa] ++ [ma] ++ [sa] ++ [ka] = L8 ∧ va_up (va_up (va_up (va_up (va_up (va_up (va_up (va_up (va_up (va_up (va_up F1 x0 (aI E 16 (fun _ => 0))) k0 (aI E 16 (fun _ => 0))) c0 (.inr (3, [.ref h0, .ref k0, .ref x0, .int (0)]))) t0 (aI E 16 (fun _ => 0))) r0 (aI E 176 (fun _ => 0))) h0 (.inr (2, [.ref r0, .ref t0]))) ba (aI E 16 (fun _ => 0))) oa (aI E 16 (fun _ => 0))) ma (aI E 300 (fun _ => 0))) sa (aS E 64 (sr))) ka (aK E 16 (fun _ => none)) = F8 ∧ (PS E L1 F1 (fun _ => none) sr 0 (fun _ _ => 0) (fun _ => 0) (fun _ => 0) (fun _ => 0) (fun _ => 0) (fun _ => 0))) := by
  refine K_start (by decide) rfl rfl (Nat.le_of_ble_eq_true rfl) (fun g A Q hgl C r => ?_)
  subst hgl
  show G g muX4_init E A 0 0 Q [(xx, .inr (6, [.null, .int (0), .null, .long (0), .null, .int (0), .null, .int (0), .null, .null, .null]))] L F 0 [(0, .ref xx)] []
  refine g_aload_n C dX4_init_0 rfl 0 rfl ?_
  refine g_obj C m_21 m_22 m_23 (by decide) (Nat.le_of_ble_eq_true rfl) dX4_init_1 ?_
  refine g_aload_n C dX4_init_4 rfl 0 rfl ?_
  refine g_bipush (v := nI (16)) C dX4_init_5 (by decide) ?_
  refine g_newK C 16 m_24 (by decide) (by decide) (by decide) (by decide) (by decide) dX4_init_7 (fun ka => ?_)
  show G g muX4_init E A (0 + 1) (0 + 16) Q [(xx, .inr (6, [.null, .int (0), .null, .long (0), .null, .int (0), .null, .int (0), .null, .null, .null])), (ka, aK E 16 (fun _ => none))] L F 10 [(0, .ref xx)] [.ref ka, .ref xx]
  refine g_putF (X' := [(xx, .inr (6, [.ref ka, .int (0), .null, .long (0), .null, .int (0), .null, .int (0), .null, .null, .null])), (ka, aK E 16 (fun _ => none))]) C 0 rfl rfl inX4 tyX4 tyX4_ok nmX4 0 (by decide) m_82 rfl rfl rfl rfl rfl (Nat.le_of_ble_eq_true rfl) rfl dX4_init_10 ?_
  refine g_aload_n C dX4_init_13 rfl 0 rfl ?_
  refine g_bipush (v := nI (64)) C dX4_init_14 (by decide) ?_
  refine g_newS C 64 m_26 (by decide) (by decide) (by decide) (by decide) (by decide) dX4_init_16 (fun sa => ?_)
  show G g muX4_init E A (0 + 1 + 1) (0 + 16 + 64) Q [(xx, .inr (6, [.ref ka, .int (0), .null, .long (0), .null, .int (0), .null, .int (0), .null, .null, .null])), (ka, aK E 16 (fun _ => none)), (sa, aS E 64 (fun _ => none))] L F 19 [(0, .ref xx)] [.ref sa, .ref xx]
  refine g_putF (X' := [(xx, .inr (6, [.ref ka, .int (0), .ref sa, .long (0), .null, .int (0), .null, .int (0), .null, .null, .null])), (ka, aK E 16 (fun _ => none)), (sa, aS E 64 (fun _ => none))]) C 0 rfl rfl inX4 tyX4 tyX4_ok nmX4 2 (by decide) m_84 rfl rfl rfl rfl rfl (Nat.le_of_ble_eq_true rfl) rfl dX4_init_19 ?_
  refine g_aload_n C dX4_init_22 rfl 0 rfl ?_
  refine g_sipush (v := nI (300)) C dX4_init_23 (by decide) ?_
  refine g_newI C 300 m_41 (by decide) (by decide) (by decide) (by decide) (by decide) dX4_init_26 (fun ma => ?_)
  show G g muX4_init E A (0 + 1 + 1 + 1) (0 + 16 + 64 + 300) Q [(xx, .inr (6, [.ref ka, .int (0), .ref sa, .long (0), .null, .int (0), .null, .int (0), .null, .null, .null])), (ka, aK E 16 (fun _ => none)), (sa, aS E 64 (fun _ => none)), (ma, aI E 300 (fun _ => 0))] L F 28 [(0, .ref xx)] [.ref ma, .ref xx]
  refine g_putF (X' := [(xx, .inr (6, [.ref ka, .int (0), .ref sa, .long (0), .ref ma, .int (0), .null, .int (0), .null, .null, .null])), (ka, aK E 16 (fun _ => none)), (sa, aS E 64 (fun _ => none)), (ma, aI E 300 (fun _ => 0))]) C 0 rfl rfl inX4 tyX4 tyX4_ok nmX4 4 (by decide) m_86 rfl rfl rfl rfl rfl (Nat.le_of_ble_eq_true rfl) rfl dX4_init_28 ?_
  refine g_aload_n C dX4_init_31 rfl 0 rfl ?_
  refine g_bipush (v := nI (16)) C dX4_init_32 (by decide) ?_
  refine g_newI C 16 m_41 (by decide) (by decide) (by decide) (by decide) (by decide) dX4_init_34 (fun oa => ?_)
  show G g muX4_init E A (0 + 1 + 1 + 1 + 1) (0 + 16 + 64 + 300 + 16) Q [(xx, .inr (6, [.ref ka, .int (0), .ref sa, .long (0), .ref ma, .int (0), .null, .int (0), .null, .null, .null])), (ka, aK E 16 (fun _ => none)), (sa, aS E 64 (fun _ => none)), (ma, aI E 300 (fun _ => 0)), (oa, aI E 16 (fun _ => 0))] L F 36 [(0, .ref xx)] [.ref oa, .ref xx]
  refine g_putF (X' := [(xx, .inr (6, [.ref ka, .int (0), .ref sa, .long (0), .ref ma, .int (0), .ref oa, .int (0), .null, .null, .null])), (ka, aK E 16 (fun _ => none)), (sa, aS E 64 (fun _ => none)), (ma, aI E 300 (fun _ => 0)), (oa, aI E 16 (fun _ => 0))]) C 0 rfl rfl inX4 tyX4 tyX4_ok nmX4 6 (by decide) m_88 rfl rfl rfl rfl rfl (Nat.le_of_ble_eq_true rfl) rfl dX4_init_36 ?_
  refine g_aload_n C dX4_init_39 rfl 0 rfl ?_
  refine g_bipush (v := nI (16)) C dX4_init_40 (by decide) ?_
  refine g_newI C 16 m_41 (by decide) (by decide) (by decide) (by decide) (by decide) dX4_init_42 (fun ba => ?_)
  show G g muX4_init E A (0 + 1 + 1 + 1 + 1 + 1) (0 + 16 + 64 + 300 + 16 + 16) Q [(xx, .inr (6, [.ref ka, .int (0), .ref sa, .long (0), .ref ma, .int (0), .ref oa, .int (0), .null, .null, .null])), (ka, aK E 16 (fun _ => none)), (sa, aS E 64 (fun _ => none)), (ma, aI E 300 (fun _ => 0)), (oa, aI E 16 (fun _ => 0)), (ba, aI E 16 (fun _ => 0))] L F 44 [(0, .ref xx)] [.ref ba, .ref xx]
  refine g_putF (X' := [(xx, .inr (6, [.ref ka, .int (0), .ref sa, .long (0), .ref ma, .int (0), .ref oa, .int (0), .ref ba, .null, .null])), (ka, aK E 16 (fun _ => none)), (sa, aS E 64 (fun _ => none)), (ma, aI E 300 (fun _ => 0)), (oa, aI E 16 (fun _ => 0)), (ba, aI E 16 (fun _ => 0))]) C 0 rfl rfl inX4 tyX4 tyX4_ok nmX4 8 (by decide) m_90 rfl rfl rfl rfl rfl (Nat.le_of_ble_eq_true rfl) rfl dX4_init_44 ?_
  refine g_aload_n C dX4_init_47 rfl 0 rfl ?_
  refine g_new (fs := [.null, .null]) C 2 rfl inX0 tyX0 tyX0_ok m_28 m_29 m_2 (fun j hj => by match j, hj with | 0, _ => rfl | 1, _ => rfl) (by decide) (by decide) dX4_init_48 (fun h0 => ?_)
  show G g muX4_init E A (0 + 1 + 1 + 1 + 1 + 1 + 1) (0 + 16 + 64 + 300 + 16 + 16 + 2) Q [(xx, .inr (6, [.ref ka, .int (0), .ref sa, .long (0), .ref ma, .int (0), .ref oa, .int (0), .ref ba, .null, .null])), (ka, aK E 16 (fun _ => none)), (sa, aS E 64 (fun _ => none)), (ma, aI E 300 (fun _ => 0)), (oa, aI E 16 (fun _ => 0)), (ba, aI E 16 (fun _ => 0)), (h0, .inr (2, [.null, .null]))] L F 51 [(0, .ref xx)] [.ref h0, .ref xx]
  refine g_dup C dX4_init_51 rfl ?_
  refine g_callIN (v := muX0_init) (cx := [(h0, .inr (2, [.null, .null]))]) C (k_X0_init (gl g) E h0 L F ) [6] rfl (by decide) rfl nn_X4_33 gi_X4_33 gi_X4_33_n gi_X4_33_i rfl hd_X0_init.2 ⟨Nat.le_of_ble_eq_true rfl, Nat.le_of_ble_eq_true rfl⟩ rfl rfl (Nat.le_of_ble_eq_true rfl) ⟨Nat.le_of_ble_eq_true rfl, Nat.le_of_ble_eq_true rfl⟩ dX4_init_52 (fun r9 cx9 L9 F9 hp9 hf9 hN9 => ?_)
  obtain ⟨r0, t0, rfl, rfl, rfl, rfl, -⟩ := hp9
  show G g muX4_init E A (0 + 1 + 1 + 1 + 1 + 1 + 1 + 2) (0 + 16 + 64 + 300 + 16 + 16 + 2 + 192) Q [(xx, .inr (6, [.ref ka, .int (0), .ref sa, .long (0), .ref ma, .int (0), .ref oa, .int (0), .ref ba, .null, .null])), (ka, aK E 16 (fun _ => none)), (sa, aS E 64 (fun _ => none)), (ma, aI E 300 (fun _ => 0)), (oa, aI E 16 (fun _ => 0)), (ba, aI E 16 (fun _ => 0)), (h0, .inr (2, [.ref r0, .ref t0]))] (L ++ [t0] ++ [r0]) (va_up (va_up F t0 (aI E 16 (fun _ => 0))) r0 (aI E 176 (fun _ => 0))) 55 [(0, .ref xx)] [.ref h0, .ref xx]
  refine g_ofP (X := [(xx, .inr (6, [.ref ka, .int (0), .ref sa, .long (0), .ref ma, .int (0), .ref oa, .int (0), .ref ba, .null, .null])), (ka, aK E 16 (fun _ => none)), (sa, aS E 64 (fun _ => none)), (ma, aI E 300 (fun _ => 0)), (oa, aI E 16 (fun _ => 0)), (ba, aI E 16 (fun _ => 0)), (h0, .inr (2, [.ref r0, .ref t0]))]) (L := L ++ [t0]) (F := va_up F t0 (aI E 16 (fun _ => 0))) (a := r0) (c := aI E 176 (fun _ => 0)) ?_
  refine g_ofP (X := [(xx, .inr (6, [.ref ka, .int (0), .ref sa, .long (0), .ref ma, .int (0), .ref oa, .int (0), .ref ba, .null, .null])), (ka, aK E 16 (fun _ => none)), (sa, aS E 64 (fun _ => none)), (ma, aI E 300 (fun _ => 0)), (oa, aI E 16 (fun _ => 0)), (ba, aI E 16 (fun _ => 0)), (h0, .inr (2, [.ref r0, .ref t0])), (r0, aI E 176 (fun _ => 0))]) (L := L) (F := F) (a := t0) (c := aI E 16 (fun _ => 0)) ?_
  show G g muX4_init E A (0 + 1 + 1 + 1 + 1 + 1 + 1 + 2) (0 + 16 + 64 + 300 + 16 + 16 + 2 + 192) Q [(xx, .inr (6, [.ref ka, .int (0), .ref sa, .long (0), .ref ma, .int (0), .ref oa, .int (0), .ref ba, .null, .null])), (ka, aK E 16 (fun _ => none)), (sa, aS E 64 (fun _ => none)), (ma, aI E 300 (fun _ => 0)), (oa, aI E 16 (fun _ => 0)), (ba, aI E 16 (fun _ => 0)), (h0, .inr (2, [.ref r0, .ref t0])), (r0, aI E 176 (fun _ => 0)), (t0, aI E 16 (fun _ => 0))] L F 55 [(0, .ref xx)] [.ref h0, .ref xx]
  refine g_putF (X' := [(xx, .inr (6, [.ref ka, .int (0), .ref sa, .long (0), .ref ma, .int (0), .ref oa, .int (0), .ref ba, .ref h0, .null])), (ka, aK E 16 (fun _ => none)), (sa, aS E 64 (fun _ => none)), (ma, aI E 300 (fun _ => 0)), (oa, aI E 16 (fun _ => 0)), (ba, aI E 16 (fun _ => 0)), (h0, .inr (2, [.ref r0, .ref t0])), (r0, aI E 176 (fun _ => 0)), (t0, aI E 16 (fun _ => 0))]) C 0 rfl rfl inX4 tyX4 tyX4_ok nmX4 9 (by decide) m_91 rfl rfl rfl rfl rfl (Nat.le_of_ble_eq_true rfl) rfl dX4_init_55 ?_
  refine g_aload_n C dX4_init_58 rfl 0 rfl ?_
  refine g_new (fs := [.null, .null, .null, .int (0)]) C 3 rfl inX1 tyX1 tyX1_ok m_42 m_43 m_3 (fun j hj => by match j, hj with | 0, _ => rfl | 1, _ => rfl | 2, _ => rfl | 3, _ => rfl) (by decide) (by decide) dX4_init_59 (fun c0 => ?_)
  show G g muX4_init E A (0 + 1 + 1 + 1 + 1 + 1 + 1 + 2 + 1) (0 + 16 + 64 + 300 + 16 + 16 + 2 + 192 + 4) Q [(xx, .inr (6, [.ref ka, .int (0), .ref sa, .long (0), .ref ma, .int (0), .ref oa, .int (0), .ref ba, .ref h0, .null])), (ka, aK E 16 (fun _ => none)), (sa, aS E 64 (fun _ => none)), (ma, aI E 300 (fun _ => 0)), (oa, aI E 16 (fun _ => 0)), (ba, aI E 16 (fun _ => 0)), (h0, .inr (2, [.ref r0, .ref t0])), (r0, aI E 176 (fun _ => 0)), (t0, aI E 16 (fun _ => 0)), (c0, .inr (3, [.null, .null, .null, .int (0)]))] L F 62 [(0, .ref xx)] [.ref c0, .ref xx]
  refine g_dup C dX4_init_62 rfl ?_
  refine g_aload_n C dX4_init_63 rfl 0 rfl ?_
  refine g_getX C 0 rfl rfl inX4 9 (by decide) m_91 rfl dX4_init_64 ?_
  refine g_callI (v := muX1_init) (cx := [(c0, .inr (3, [.null, .null, .null, .int (0)]))]) C (k_X1_init (gl g) E c0 h0 L F ) [9] rfl (by decide) rfl gi_X4_40_l gi_X4_40 gi_X4_40_n gi_X4_40_i rfl hd_X1_init.2 ⟨Nat.le_of_ble_eq_true rfl, Nat.le_of_ble_eq_true rfl⟩ rfl rfl (Nat.le_of_ble_eq_true rfl) ⟨Nat.le_of_ble_eq_true rfl, Nat.le_of_ble_eq_true rfl⟩ dX4_init_67 (fun r9 cx9 L9 F9 hp9 hf9 hN9 => ?_)
  obtain ⟨k0, x0, rfl, rfl, rfl, rfl, -⟩ := hp9
  show G g muX4_init E A (0 + 1 + 1 + 1 + 1 + 1 + 1 + 2 + 1 + 2) (0 + 16 + 64 + 300 + 16 + 16 + 2 + 192 + 4 + 32) Q [(xx, .inr (6, [.ref ka, .int (0), .ref sa, .long (0), .ref ma, .int (0), .ref oa, .int (0), .ref ba, .ref h0, .null])), (ka, aK E 16 (fun _ => none)), (sa, aS E 64 (fun _ => none)), (ma, aI E 300 (fun _ => 0)), (oa, aI E 16 (fun _ => 0)), (ba, aI E 16 (fun _ => 0)), (h0, .inr (2, [.ref r0, .ref t0])), (r0, aI E 176 (fun _ => 0)), (t0, aI E 16 (fun _ => 0)), (c0, .inr (3, [.ref h0, .ref k0, .ref x0, .int (0)]))] (L ++ [x0] ++ [k0]) (va_up (va_up F x0 (aI E 16 (fun _ => 0))) k0 (aI E 16 (fun _ => 0))) 70 [(0, .ref xx)] [.ref c0, .ref xx]
  refine g_ofP (X := [(xx, .inr (6, [.ref ka, .int (0), .ref sa, .long (0), .ref ma, .int (0), .ref oa, .int (0), .ref ba, .ref h0, .null])), (ka, aK E 16 (fun _ => none)), (sa, aS E 64 (fun _ => none)), (ma, aI E 300 (fun _ => 0)), (oa, aI E 16 (fun _ => 0)), (ba, aI E 16 (fun _ => 0)), (h0, .inr (2, [.ref r0, .ref t0])), (r0, aI E 176 (fun _ => 0)), (t0, aI E 16 (fun _ => 0)), (c0, .inr (3, [.ref h0, .ref k0, .ref x0, .int (0)]))]) (L := L ++ [x0]) (F := va_up F x0 (aI E 16 (fun _ => 0))) (a := k0) (c := aI E 16 (fun _ => 0)) ?_
  refine g_ofP (X := [(xx, .inr (6, [.ref ka, .int (0), .ref sa, .long (0), .ref ma, .int (0), .ref oa, .int (0), .ref ba, .ref h0, .null])), (ka, aK E 16 (fun _ => none)), (sa, aS E 64 (fun _ => none)), (ma, aI E 300 (fun _ => 0)), (oa, aI E 16 (fun _ => 0)), (ba, aI E 16 (fun _ => 0)), (h0, .inr (2, [.ref r0, .ref t0])), (r0, aI E 176 (fun _ => 0)), (t0, aI E 16 (fun _ => 0)), (c0, .inr (3, [.ref h0, .ref k0, .ref x0, .int (0)])), (k0, aI E 16 (fun _ => 0))]) (L := L) (F := F) (a := x0) (c := aI E 16 (fun _ => 0)) ?_
  show G g muX4_init E A (0 + 1 + 1 + 1 + 1 + 1 + 1 + 2 + 1 + 2) (0 + 16 + 64 + 300 + 16 + 16 + 2 + 192 + 4 + 32) Q [(xx, .inr (6, [.ref ka, .int (0), .ref sa, .long (0), .ref ma, .int (0), .ref oa, .int (0), .ref ba, .ref h0, .null])), (ka, aK E 16 (fun _ => none)), (sa, aS E 64 (fun _ => none)), (ma, aI E 300 (fun _ => 0)), (oa, aI E 16 (fun _ => 0)), (ba, aI E 16 (fun _ => 0)), (h0, .inr (2, [.ref r0, .ref t0])), (r0, aI E 176 (fun _ => 0)), (t0, aI E 16 (fun _ => 0)), (c0, .inr (3, [.ref h0, .ref k0, .ref x0, .int (0)])), (k0, aI E 16 (fun _ => 0)), (x0, aI E 16 (fun _ => 0))] L F 70 [(0, .ref xx)] [.ref c0, .ref xx]
  refine g_putF (X' := [(xx, .inr (6, [.ref ka, .int (0), .ref sa, .long (0), .ref ma, .int (0), .ref oa, .int (0), .ref ba, .ref h0, .ref c0])), (ka, aK E 16 (fun _ => none)), (sa, aS E 64 (fun _ => none)), (ma, aI E 300 (fun _ => 0)), (oa, aI E 16 (fun _ => 0)), (ba, aI E 16 (fun _ => 0)), (h0, .inr (2, [.ref r0, .ref t0])), (r0, aI E 176 (fun _ => 0)), (t0, aI E 16 (fun _ => 0)), (c0, .inr (3, [.ref h0, .ref k0, .ref x0, .int (0)])), (k0, aI E 16 (fun _ => 0)), (x0, aI E 16 (fun _ => 0))]) C 0 rfl rfl inX4 tyX4 tyX4_ok nmX4 10 (by decide) m_92 rfl rfl rfl rfl rfl (Nat.le_of_ble_eq_true rfl) rfl dX4_init_70 ?_
  refine g_iconst (v := nI (0)) C dX4_init_73 (by decide) ?_
  refine g_istore_n (lv' := [(1, .int (nI (0))), (0, .ref xx)]) C dX4_init_74 rfl (by decide) rfl ?_
  have lp75 : ∀ (n75 : Nat) (i : Nat) (sr : Nat → Option Nat) (L1 : List Nat) (F1 : Nat → va_E), (i ≤ 64) → (∃ N, L1 = L ++ N) → (PSn L1 F1 sr i) → 65 ≤ i + n75 → G g muX4_init E A (11 + i) (642 + 4 * i) Q [(xx, .inr (6, [.ref ka, .int (0), .ref sa, .long (0), .ref ma, .int (0), .ref oa, .int (0), .ref ba, .ref h0, .ref c0])), (ka, aK E 16 (fun _ => none)), (sa, aS E 64 (sr)), (ma, aI E 300 (fun _ => 0)), (oa, aI E 16 (fun _ => 0)), (ba, aI E 16 (fun _ => 0)), (h0, .inr (2, [.ref r0, .ref t0])), (r0, aI E 176 (fun _ => 0)), (t0, aI E 16 (fun _ => 0)), (c0, .inr (3, [.ref h0, .ref k0, .ref x0, .int (0)])), (k0, aI E 16 (fun _ => 0)), (x0, aI E 16 (fun _ => 0))] L1 F1 75 [(0, .ref xx), (1, .int (nI (i)))] [] := by
    intro n75
    induction n75 with
    | zero => intro i sr L1 F1 hi hL hP hfu75; exact absurd hfu75 (by omega)
    | succ n75 ih75 =>
      intro i sr L1 F1 hi hL hP hfu75
      refine g_iload_n C dX4_init_75 rfl 1 rfl ?_
      refine g_bipush (v := nI (64)) C dX4_init_76 (by decide) ?_
      refine g_nicmp_ge (tgt := 103) C dX4_init_78 (by decide) (by omega) (by omega) (fun c78 => ?_) (fun c78 => ?_)
      · skip
        obtain rfl : i = 64 := by omega
        refine g_toP (X := [(xx, .inr (6, [.ref ka, .int (0), .ref sa, .long (0), .ref ma, .int (0), .ref oa, .int (0), .ref ba, .ref h0, .ref c0])), (ka, aK E 16 (fun _ => none)), (sa, aS E 64 (sr)), (ma, aI E 300 (fun _ => 0)), (oa, aI E 16 (fun _ => 0)), (ba, aI E 16 (fun _ => 0)), (h0, .inr (2, [.ref r0, .ref t0])), (r0, aI E 176 (fun _ => 0)), (t0, aI E 16 (fun _ => 0)), (c0, .inr (3, [.ref h0, .ref k0, .ref x0, .int (0)])), (k0, aI E 16 (fun _ => 0))]) (a := x0) (c := aI E 16 (fun _ => 0)) ?_
        refine g_toP (X := [(xx, .inr (6, [.ref ka, .int (0), .ref sa, .long (0), .ref ma, .int (0), .ref oa, .int (0), .ref ba, .ref h0, .ref c0])), (ka, aK E 16 (fun _ => none)), (sa, aS E 64 (sr)), (ma, aI E 300 (fun _ => 0)), (oa, aI E 16 (fun _ => 0)), (ba, aI E 16 (fun _ => 0)), (h0, .inr (2, [.ref r0, .ref t0])), (r0, aI E 176 (fun _ => 0)), (t0, aI E 16 (fun _ => 0)), (c0, .inr (3, [.ref h0, .ref k0, .ref x0, .int (0)]))]) (a := k0) (c := aI E 16 (fun _ => 0)) ?_
        refine g_toP (X := [(xx, .inr (6, [.ref ka, .int (0), .ref sa, .long (0), .ref ma, .int (0), .ref oa, .int (0), .ref ba, .ref h0, .ref c0])), (ka, aK E 16 (fun _ => none)), (sa, aS E 64 (sr)), (ma, aI E 300 (fun _ => 0)), (oa, aI E 16 (fun _ => 0)), (ba, aI E 16 (fun _ => 0)), (h0, .inr (2, [.ref r0, .ref t0])), (r0, aI E 176 (fun _ => 0)), (t0, aI E 16 (fun _ => 0))]) (a := c0) (c := .inr (3, [.ref h0, .ref k0, .ref x0, .int (0)])) ?_
        refine g_toP (X := [(xx, .inr (6, [.ref ka, .int (0), .ref sa, .long (0), .ref ma, .int (0), .ref oa, .int (0), .ref ba, .ref h0, .ref c0])), (ka, aK E 16 (fun _ => none)), (sa, aS E 64 (sr)), (ma, aI E 300 (fun _ => 0)), (oa, aI E 16 (fun _ => 0)), (ba, aI E 16 (fun _ => 0)), (h0, .inr (2, [.ref r0, .ref t0])), (r0, aI E 176 (fun _ => 0))]) (a := t0) (c := aI E 16 (fun _ => 0)) ?_
        refine g_toP (X := [(xx, .inr (6, [.ref ka, .int (0), .ref sa, .long (0), .ref ma, .int (0), .ref oa, .int (0), .ref ba, .ref h0, .ref c0])), (ka, aK E 16 (fun _ => none)), (sa, aS E 64 (sr)), (ma, aI E 300 (fun _ => 0)), (oa, aI E 16 (fun _ => 0)), (ba, aI E 16 (fun _ => 0)), (h0, .inr (2, [.ref r0, .ref t0]))]) (a := r0) (c := aI E 176 (fun _ => 0)) ?_
        refine g_toP (X := [(xx, .inr (6, [.ref ka, .int (0), .ref sa, .long (0), .ref ma, .int (0), .ref oa, .int (0), .ref ba, .ref h0, .ref c0])), (ka, aK E 16 (fun _ => none)), (sa, aS E 64 (sr)), (ma, aI E 300 (fun _ => 0)), (oa, aI E 16 (fun _ => 0)), (ba, aI E 16 (fun _ => 0))]) (a := h0) (c := .inr (2, [.ref r0, .ref t0])) ?_
        refine g_toP (X := [(xx, .inr (6, [.ref ka, .int (0), .ref sa, .long (0), .ref ma, .int (0), .ref oa, .int (0), .ref ba, .ref h0, .ref c0])), (ka, aK E 16 (fun _ => none)), (sa, aS E 64 (sr)), (ma, aI E 300 (fun _ => 0)), (oa, aI E 16 (fun _ => 0))]) (a := ba) (c := aI E 16 (fun _ => 0)) ?_
        refine g_toP (X := [(xx, .inr (6, [.ref ka, .int (0), .ref sa, .long (0), .ref ma, .int (0), .ref oa, .int (0), .ref ba, .ref h0, .ref c0])), (ka, aK E 16 (fun _ => none)), (sa, aS E 64 (sr)), (ma, aI E 300 (fun _ => 0))]) (a := oa) (c := aI E 16 (fun _ => 0)) ?_
        refine g_toP (X := [(xx, .inr (6, [.ref ka, .int (0), .ref sa, .long (0), .ref ma, .int (0), .ref oa, .int (0), .ref ba, .ref h0, .ref c0])), (ka, aK E 16 (fun _ => none)), (sa, aS E 64 (sr))]) (a := ma) (c := aI E 300 (fun _ => 0)) ?_
        refine g_toP (X := [(xx, .inr (6, [.ref ka, .int (0), .ref sa, .long (0), .ref ma, .int (0), .ref oa, .int (0), .ref ba, .ref h0, .ref c0])), (ka, aK E 16 (fun _ => none))]) (a := sa) (c := aS E 64 (sr)) ?_
        refine g_toP (X := [(xx, .inr (6, [.ref ka, .int (0), .ref sa, .long (0), .ref ma, .int (0), .ref oa, .int (0), .ref ba, .ref h0, .ref c0]))]) (a := ka) (c := aK E 16 (fun _ => none)) ?_
        refine g_cells (ce' := uC muX4_init) (sl' := uS muX4_init) (Nat.le_of_ble_eq_true rfl) (Nat.le_of_ble_eq_true rfl) ?_
        exact g_vret C r rfl ⟨ka, sa, ma, oa, ba, h0, r0, t0, c0, k0, x0, sr, L1, F1, rfl, rfl, rfl, rfl, PSn_e (Nat.le_refl 64) hP⟩ rfl (nN_s (nN_s (nN_s (nN_s (nN_s (nN_s (nN_s (nN_s (nN_s (nN_s (nN_s hL))))))))))) dX4_init_103
      · skip
        refine g_aload_n C dX4_init_81 rfl 0 rfl ?_
        refine g_getX C 0 rfl rfl inX4 2 (by decide) m_84 rfl dX4_init_82 ?_
        refine g_iload_n C dX4_init_85 rfl 1 rfl ?_
        refine g_new (fs := [.int (0), .long (0), .int (0), .int (0)]) C 5 rfl inX3 tyX3 tyX3_ok m_26 m_62 m_4 (fun j hj => by match j, hj with | 0, _ => rfl | 1, _ => rfl | 2, _ => rfl | 3, _ => rfl) (Nat.le_trans (show 11 + i + 1 ≤ 75 from by omega) (Nat.le_of_ble_eq_true rfl)) (Nat.le_trans (show 642 + 4 * i + 4 ≤ 898 from by omega) (Nat.le_of_ble_eq_true rfl)) dX4_init_86 (fun sq => ?_)
        show G g muX4_init E A (11 + i + 1) (642 + 4 * i + 4) Q [(xx, .inr (6, [.ref ka, .int (0), .ref sa, .long (0), .ref ma, .int (0), .ref oa, .int (0), .ref ba, .ref h0, .ref c0])), (ka, aK E 16 (fun _ => none)), (sa, aS E 64 (sr)), (ma, aI E 300 (fun _ => 0)), (oa, aI E 16 (fun _ => 0)), (ba, aI E 16 (fun _ => 0)), (h0, .inr (2, [.ref r0, .ref t0])), (r0, aI E 176 (fun _ => 0)), (t0, aI E 16 (fun _ => 0)), (c0, .inr (3, [.ref h0, .ref k0, .ref x0, .int (0)])), (k0, aI E 16 (fun _ => 0)), (x0, aI E 16 (fun _ => 0)), (sq, .inr (5, [.int (0), .long (0), .int (0), .int (0)]))] L1 F1 89 [(0, .ref xx), (1, .int (nI (i)))] [.ref sq, .int (nI (i)), .ref sa]
        refine g_dup C dX4_init_89 rfl ?_
        refine g_iload_n C dX4_init_90 rfl 1 rfl ?_
        refine g_iconst (v := nI (1)) C dX4_init_91 (by decide) ?_
        refine g_iadd C dX4_init_92 ?_
        refine g_asi (nI_add _ _) ?_
        refine g_callI (v := muX3_init) (cx := [(sq, .inr (5, [.int (0), .long (0), .int (0), .int (0)]))]) C (k_X3_init (gl g) E sq (nI (i + 1)) L1 F1 ) [12] rfl (by decide) rfl gi_X4_47_l gi_X4_47 gi_X4_47_n gi_X4_47_i rfl hd_X3_init.2 ⟨Nat.le_of_ble_eq_true rfl, Nat.le_of_ble_eq_true rfl⟩ rfl rfl (Nat.le_of_ble_eq_true rfl) ⟨Nat.le_trans (show 11 + i + 1 + 0 ≤ 75 from by omega) (Nat.le_of_ble_eq_true rfl), Nat.le_trans (show 642 + 4 * i + 4 + 0 ≤ 898 from by omega) (Nat.le_of_ble_eq_true rfl)⟩ dX4_init_93 (fun r9 cx9 L9 F9 hp9 hf9 hN9 => ?_)
        obtain ⟨rfl, rfl, rfl, rfl, -⟩ := hp9
        show G g muX4_init E A (11 + i + 1) (642 + 4 * i + 4) Q [(xx, .inr (6, [.ref ka, .int (0), .ref sa, .long (0), .ref ma, .int (0), .ref oa, .int (0), .ref ba, .ref h0, .ref c0])), (ka, aK E 16 (fun _ => none)), (sa, aS E 64 (sr)), (ma, aI E 300 (fun _ => 0)), (oa, aI E 16 (fun _ => 0)), (ba, aI E 16 (fun _ => 0)), (h0, .inr (2, [.ref r0, .ref t0])), (r0, aI E 176 (fun _ => 0)), (t0, aI E 16 (fun _ => 0)), (c0, .inr (3, [.ref h0, .ref k0, .ref x0, .int (0)])), (k0, aI E 16 (fun _ => 0)), (x0, aI E 16 (fun _ => 0)), (sq, .inr (5, [.int (nI (i + 1)), .long (0), .int (0), .int (0)]))] L1 F1 96 [(0, .ref xx), (1, .int (nI (i)))] [.ref sq, .int (nI (i)), .ref sa]
        refine g_sast (X' := [(xx, .inr (6, [.ref ka, .int (0), .ref sa, .long (0), .ref ma, .int (0), .ref oa, .int (0), .ref ba, .ref h0, .ref c0])), (ka, aK E 16 (fun _ => none)), (sa, aS E 64 (va_up sr i (some sq))), (ma, aI E 300 (fun _ => 0)), (oa, aI E 16 (fun _ => 0)), (ba, aI E 16 (fun _ => 0)), (h0, .inr (2, [.ref r0, .ref t0])), (r0, aI E 176 (fun _ => 0)), (t0, aI E 16 (fun _ => 0)), (c0, .inr (3, [.ref h0, .ref k0, .ref x0, .int (0)])), (k0, aI E 16 (fun _ => 0)), (x0, aI E 16 (fun _ => 0)), (sq, .inr (5, [.int (nI (i + 1)), .long (0), .int (0), .int (0)]))]) C 2 12 rfl rfl (by omega) (by decide) rfl dX4_init_96 ?_
        refine g_toP (X := [(xx, .inr (6, [.ref ka, .int (0), .ref sa, .long (0), .ref ma, .int (0), .ref oa, .int (0), .ref ba, .ref h0, .ref c0])), (ka, aK E 16 (fun _ => none)), (sa, aS E 64 (va_up sr i (some sq))), (ma, aI E 300 (fun _ => 0)), (oa, aI E 16 (fun _ => 0)), (ba, aI E 16 (fun _ => 0)), (h0, .inr (2, [.ref r0, .ref t0])), (r0, aI E 176 (fun _ => 0)), (t0, aI E 16 (fun _ => 0)), (c0, .inr (3, [.ref h0, .ref k0, .ref x0, .int (0)])), (k0, aI E 16 (fun _ => 0)), (x0, aI E 16 (fun _ => 0))]) (a := sq) (c := .inr (5, [.int (nI (i + 1)), .long (0), .int (0), .int (0)])) ?_
        refine g_nd (fun hnd => ?_)
        refine g_iinc (v := nI (i + 1)) (lv' := [(1, .int (nI (i + 1))), (0, .ref xx)]) C dX4_init_97 1 rfl (nI_inc _ 1) (by decide) rfl ?_
        refine g_goto (tgt := 75) C dX4_init_100 (by decide) ?_
        refine g_lv [1, 0] rfl ?_
        exact ih75 (i + 1) (va_up sr i (some sq)) (L1 ++ [sq]) (va_up F1 sq (.inr (5, [.int (nI (i + 1)), .long (0), .int (0), .int (0)]))) (by omega) (nN_s hL) (PSn_s hP (nd_last hnd)) (by omega)
  refine g_lv [1, 0] rfl ?_
  exact lp75 65 0 (fun _ => none) L F (Nat.zero_le _) nN PSn_0 (by omega)
