def ansF (src : Nat → Int32) (bi : Nat) (i : Nat) : Int32 := src i &&& ((65280 : Int32) >>> (imax (nI 0) (imin (nI 8) (nI bi - nI (8 * i))) &&& 31))
def keyS (nk : Nat) (ko : Nat → Nat → Int32) (kn : Nat → Nat) (kc : Nat → Int64) : Int32 × Nat × (Nat → Nat → Int32) × (Nat → Nat) × (Nat → Int64) := if nk < 16 then (nI (nk + 1), nk + 1, va_up ko nk (fun _ => 0), va_up kn nk 0, va_up kc nk 0) else (-4, nk, ko, kn, kc)
def kbS (nk : Nat) (ko : Nat → Nat → Int32) (kn : Nat → Nat) (k b : Int32) : (Nat → Nat → Int32) × (Nat → Nat) := match kf nk k with
  | none => (ko, kn)
  | some i => (va_up ko i (upd (ko i) (kn i % 16) (b &&& nI 255)), va_up kn i (kn i % 16 + 1))
def octS (ml : Nat) (msg : Nat → Int32) (b : Int32) : Nat × (Nat → Int32) := if ml < 300 then (ml + 1, upd msg ml (b &&& nI 255)) else (ml, msg)
def cdS (nk : Nat) (ko : Nat → Nat → Int32) (ml : Nat) (msg : Nat → Int32) (on : Nat) (ov : Nat → Int32) (k bits : Int32) : Int32 × Nat × Nat × (Nat → Int32) := match kf nk k with
  | none => (-1, ml, on, ov)
  | some i => if bits < nI 32 then (-2, ml, on, ov) else if bits ≤ nI 128 then (nI ((bits.toNatClampNeg + 7) / 8), 0, (bits.toNatClampNeg + 7) / 8, ansF (CMAC (ko i) msg ml) bits.toNatClampNeg) else (-2, ml, on, ov)
theorem bits_of {b : Int32} (h1 : ¬ b < nI 32) (h2 : b ≤ nI 128) : ∃ n, 32 ≤ n ∧ n ≤ 128 ∧ b = nI n := by
  have e0 : ¬ b < 0 := fun z => h1 (by
    rw [Int32.lt_iff_toInt_lt] at z ⊢
    have a1 : (0 : Int32).toInt = 0 := rfl
    have a2 : (nI 32).toInt = 32 := rfl
    omega)
  obtain ⟨j, hj, rfl⟩ := nI_of e0
  refine ⟨j, ?_, (nI_leI hj (by decide)).mp h2, rfl⟩
  rcases Nat.lt_or_ge j 32 with h | h
  · exact absurd (nI_lt h (by decide)) h1
  · exact h
def ckF (f : Nat → Int32) : Int32 := (((f 0 <<< (nI 24 &&& 31)) ||| (f 1 <<< (nI 16 &&& 31))) ||| (f 2 <<< (nI 8 &&& 31))) ||| f 3
def ckS (nk : Nat) (ko : Nat → Nat → Int32) (k : Int32) : Int32 := match kf nk k with
  | none => nI 0
  | some i => ckF (ENC (ko i) (fun _ => nI 0))
def ecS (nk : Nat) (ko : Nat → Nat → Int32) (ml : Nat) (msg : Nat → Int32) (on : Nat) (ov : Nat → Int32) (k : Int32) : Int32 × Nat × Nat × (Nat → Int32) := match kf nk k with
  | none => (-1, ml, on, ov)
  | some i => if ml = 16 then (nI 16, 0, 16, ansF (ENC (ko i) msg) 128) else (-3, ml, on, ov)
def frS (sc : Nat → Int64) (id : Int32) (c : Int64) : Int32 × (Nat → Int64) := match kf 64 id with
  | none => (-1, sc)
  | some i => if c < 0 then (-2, sc) else if c ≤ 4611686018427387904 then (if sc i < c then (nI 1, va_up sc i c) else (nI 0, sc)) else (-2, sc)
def trS (tr : Int64) (sc : Nat → Int64) (sb : Nat → Nat) (n : Int64) : Int32 × Int64 × (Nat → Int64) × (Nat → Nat) := if n < 0 then (-2, tr, sc, sb) else if n ≤ 4294967295 then (if tr < n then (nI 1, n, (fun _ => 0), (fun _ => 0)) else (nI 0, tr, sc, sb)) else (-2, tr, sc, sb)
def myS (nk : Nat) (sl : Nat → Int32) (id k : Int32) (on : Bool) : Int32 × (Nat → Int32) := match kf 64 id with
  | none => (-1, sl)
  | some j => match kf nk k with
    | none => (-1, sl)
    | some _ => (bc (alw (sl j) k on), va_up sl j (alw (sl j) k on))
theorem nd_new {A L : List Nat} {o k : Nat} (h : (A ++ (L ++ [o] ++ [k])).Nodup) : o ∉ L ∧ k ∉ L ∧ o ≠ k := by
  have h1 := (List.nodup_append.mp h).2.1
  have h2 := List.nodup_append.mp h1
  have h3 := List.nodup_append.mp h2.1
  exact ⟨fun z => h3.2.2 o z o (by simp) rfl, fun z => h2.2.2 k (List.mem_append_left _ z) k (by simp) rfl, fun z => h2.2.2 o (by simp) k (by simp) z⟩
theorem ps_k {E : Ev} {L : List Nat} {F : Nat → va_E} {kr sr : Nat → Option Nat} {nk : Nat} {ko : Nat → Nat → Int32} {kn : Nat → Nat} {kc sc : Nat → Int64} {sb : Nat → Nat} {sl : Nat → Int32} {i : Nat} (h : PS E L F kr sr nk ko kn (va_up kc i (kc i)) sc sb sl) : PS E L F kr sr nk ko kn kc sc sb sl := by rwa [va_up_id] at h
theorem ps_c {E : Ev} {L : List Nat} {F : Nat → va_E} {kr sr : Nat → Option Nat} {nk : Nat} {ko : Nat → Nat → Int32} {kn : Nat → Nat} {kc sc : Nat → Int64} {sb : Nat → Nat} {sl : Nat → Int32} {i : Nat} (h : PS E L F kr sr nk ko kn kc sc (va_up sb i (sb i)) (va_up sl i (sl i))) : PS E L F kr sr nk ko kn kc sc sb sl := by rwa [va_up_id, va_up_id] at h
theorem ps_l {E : Ev} {L : List Nat} {F : Nat → va_E} {kr sr : Nat → Option Nat} {nk : Nat} {ko : Nat → Nat → Int32} {kn : Nat → Nat} {kc sc : Nat → Int64} {sb : Nat → Nat} {sl : Nat → Int32} {i : Nat} (h : PS E L F kr sr nk ko kn kc (va_up sc i (sc i)) (va_up sb i (sb i)) sl) : PS E L F kr sr nk ko kn kc sc sb sl := by rwa [va_up_id, va_up_id] at h
abbrev muX4_findKey : Mu := (cX4_findKey, 2, RX4, (some (.object "MessageCodes$Key")), "findKey", 0, 0, 0, 0)
theorem hd_X4_findKey : yX4_findKey.cls = RX4 ∧ yX4_findKey.cls ≠ "java/lang/invoke/MethodHandle" ∧ yX4_findKey.cls ≠ "java/lang/invoke/VarHandle" ∧ (parseMethodDescriptor yX4_findKey.desc).map (fun d => d.parameters.length) = some 1 := by decide +kernel
set_option maxHeartbeats 4000000 in
set_option maxRecDepth 100000 in
theorem k_X4_findKey (l : Launch) (E : Ev) (xx ka sa ma oa ba h0 c0 nk ml on : Nat) (tr : Int64) (kr : Nat → Option Nat) (k : Int32) (L : List Nat) (F : Nat → va_E) (hnk : nk ≤ 16) : KC l E yX4_findKey muX4_findKey [.ref xx, .int (k)] [(xx, .inr (6, [.ref ka, .int (nI (nk)), .ref sa, .long (tr), .ref ma, .int (nI (ml)), .ref oa, .int (nI (on)), .ref ba, .ref h0, .ref c0])), (ka, aK E 16 (kr))] L F (fun r8 cx8 L8 F8 => r8 = some (va_rf ((kf nk k).bind kr)) ∧ cx8 = [(xx, .inr (6, [.ref ka, .int (nI (nk)), .ref sa, .long (tr), .ref ma, .int (nI (ml)), .ref oa, .int (nI (on)), .ref ba, .ref h0, .ref c0])), (ka, aK E 16 (kr))] ∧ L = L8 ∧ F = F8 ∧ (True)) := by
  refine K_start (by decide) rfl rfl (Nat.le_of_ble_eq_true rfl) (fun g A Q hgl C r => ?_)
  subst hgl
  show G g muX4_findKey E A 0 0 Q [(xx, .inr (6, [.ref ka, .int (nI (nk)), .ref sa, .long (tr), .ref ma, .int (nI (ml)), .ref oa, .int (nI (on)), .ref ba, .ref h0, .ref c0])), (ka, aK E 16 (kr))] L F 0 [(0, .ref xx), (1, .int (k))] []
  refine g_iload_n C dX4_findKey_0 rfl 1 rfl ?_
  refine g_iconst (v := nI (1)) C dX4_findKey_1 (by decide) ?_
  refine g_icmp_lt (tgt := 30) C dX4_findKey_2 (by decide) (fun c2 => ?_) (fun c2 => ?_)
  · skip
    refine g_null C dX4_findKey_30 ?_
    exact g_aret (v := none) C r rfl ⟨by unfold kf; rw [if_pos c2]; rfl, rfl, rfl, rfl, trivial⟩ rfl nN dX4_findKey_31
  · skip
    refine g_iload_n C dX4_findKey_5 rfl 1 rfl ?_
    refine g_aload_n C dX4_findKey_6 rfl 0 rfl ?_
    refine g_getX C 0 rfl rfl inX4 1 (by decide) m_83 rfl dX4_findKey_7 ?_
    refine g_icmp_gt (tgt := 30) C dX4_findKey_10 (by decide) (fun c10 => ?_) (fun c10 => ?_)
    · skip
      refine g_null C dX4_findKey_30 ?_
      exact g_aret (v := none) C r rfl ⟨by unfold kf; rw [if_neg c2, if_pos c10]; rfl, rfl, rfl, rfl, trivial⟩ rfl nN dX4_findKey_31
    · skip
      refine g_iload_n C dX4_findKey_13 rfl 1 rfl ?_
      refine g_bipush (v := nI (16)) C dX4_findKey_14 (by decide) ?_
      refine g_icmp_gt (tgt := 30) C dX4_findKey_16 (by decide) (fun c16 => ?_) (fun c16 => ?_)
      · skip
        exact absurd c16 (kf_16 hnk c2 c10)
      · skip
        refine g_aload_n C dX4_findKey_19 rfl 0 rfl ?_
        refine g_getX C 0 rfl rfl inX4 0 (by decide) m_82 rfl dX4_findKey_20 ?_
        refine g_iload_n C dX4_findKey_23 rfl 1 rfl ?_
        refine g_iconst (v := nI (1)) C dX4_findKey_24 (by decide) ?_
        refine g_isub C dX4_findKey_25 ?_
        refine g_kaload C 1 rfl (kf_vp hnk (by omega) c2 c10) dX4_findKey_26 ?_
        refine g_goto (tgt := 31) C dX4_findKey_27 (by decide) ?_
        exact g_aret (v := kr (k - (nI (1))).toNatClampNeg) C r rfl ⟨by unfold kf; rw [if_neg c2, if_neg c10]; rfl, rfl, rfl, rfl, trivial⟩ rfl nN dX4_findKey_31
abbrev muX4_findSender : Mu := (cX4_findSender, 2, RX4, (some (.object "MessageCodes$Sender")), "findSender", 0, 0, 0, 0)
theorem hd_X4_findSender : yX4_findSender.cls = RX4 ∧ yX4_findSender.cls ≠ "java/lang/invoke/MethodHandle" ∧ yX4_findSender.cls ≠ "java/lang/invoke/VarHandle" ∧ (parseMethodDescriptor yX4_findSender.desc).map (fun d => d.parameters.length) = some 1 := by decide +kernel
set_option maxHeartbeats 4000000 in
set_option maxRecDepth 100000 in
theorem k_X4_findSender (l : Launch) (E : Ev) (xx ka sa ma oa ba h0 c0 nk ml on : Nat) (tr : Int64) (sr : Nat → Option Nat) (k : Int32) (L : List Nat) (F : Nat → va_E)  : KC l E yX4_findSender muX4_findSender [.ref xx, .int (k)] [(xx, .inr (6, [.ref ka, .int (nI (nk)), .ref sa, .long (tr), .ref ma, .int (nI (ml)), .ref oa, .int (nI (on)), .ref ba, .ref h0, .ref c0])), (sa, aS E 64 (sr))] L F (fun r8 cx8 L8 F8 => r8 = some (va_rf ((kf 64 k).bind sr)) ∧ cx8 = [(xx, .inr (6, [.ref ka, .int (nI (nk)), .ref sa, .long (tr), .ref ma, .int (nI (ml)), .ref oa, .int (nI (on)), .ref ba, .ref h0, .ref c0])), (sa, aS E 64 (sr))] ∧ L = L8 ∧ F = F8 ∧ (True)) := by
  refine K_start (by decide) rfl rfl (Nat.le_of_ble_eq_true rfl) (fun g A Q hgl C r => ?_)
  subst hgl
  show G g muX4_findSender E A 0 0 Q [(xx, .inr (6, [.ref ka, .int (nI (nk)), .ref sa, .long (tr), .ref ma, .int (nI (ml)), .ref oa, .int (nI (on)), .ref ba, .ref h0, .ref c0])), (sa, aS E 64 (sr))] L F 0 [(0, .ref xx), (1, .int (k))] []
  refine g_iload_n C dX4_findSender_0 rfl 1 rfl ?_
  refine g_iconst (v := nI (1)) C dX4_findSender_1 (by decide) ?_
  refine g_icmp_lt (tgt := 22) C dX4_findSender_2 (by decide) (fun c2 => ?_) (fun c2 => ?_)
  · skip
    refine g_null C dX4_findSender_22 ?_
    exact g_aret (v := none) C r rfl ⟨by unfold kf; rw [if_pos c2]; rfl, rfl, rfl, rfl, trivial⟩ rfl nN dX4_findSender_23
  · skip
    refine g_iload_n C dX4_findSender_5 rfl 1 rfl ?_
    refine g_bipush (v := nI (64)) C dX4_findSender_6 (by decide) ?_
    refine g_icmp_gt (tgt := 22) C dX4_findSender_8 (by decide) (fun c8 => ?_) (fun c8 => ?_)
    · skip
      refine g_null C dX4_findSender_22 ?_
      exact g_aret (v := none) C r rfl ⟨by unfold kf; rw [if_neg c2, if_pos c8]; rfl, rfl, rfl, rfl, trivial⟩ rfl nN dX4_findSender_23
    · skip
      refine g_aload_n C dX4_findSender_11 rfl 0 rfl ?_
      refine g_getX C 0 rfl rfl inX4 2 (by decide) m_84 rfl dX4_findSender_12 ?_
      refine g_iload_n C dX4_findSender_15 rfl 1 rfl ?_
      refine g_iconst (v := nI (1)) C dX4_findSender_16 (by decide) ?_
      refine g_isub C dX4_findSender_17 ?_
      refine g_saload C 1 rfl (kf_vp (Nat.le_refl 64) (by omega) c2 c8) dX4_findSender_18 ?_
      refine g_goto (tgt := 23) C dX4_findSender_19 (by decide) ?_
      exact g_aret (v := sr (k - (nI (1))).toNatClampNeg) C r rfl ⟨by unfold kf; rw [if_neg c2, if_neg c8]; rfl, rfl, rfl, rfl, trivial⟩ rfl nN dX4_findSender_23
abbrev muX4_emptyMessage : Mu := (cX4_emptyMessage, 1, RX4, none, "emptyMessage", 0, 0, 0, 0)
theorem hd_X4_emptyMessage : yX4_emptyMessage.cls = RX4 ∧ yX4_emptyMessage.cls ≠ "java/lang/invoke/MethodHandle" ∧ yX4_emptyMessage.cls ≠ "java/lang/invoke/VarHandle" ∧ (parseMethodDescriptor yX4_emptyMessage.desc).map (fun d => d.parameters.length) = some 0 := by decide +kernel
set_option maxHeartbeats 4000000 in
set_option maxRecDepth 100000 in
theorem k_X4_emptyMessage (l : Launch) (E : Ev) (xx ka sa ma oa ba h0 c0 nk ml on : Nat) (tr : Int64) (L : List Nat) (F : Nat → va_E)  : KC l E yX4_emptyMessage muX4_emptyMessage [.ref xx] [(xx, .inr (6, [.ref ka, .int (nI (nk)), .ref sa, .long (tr), .ref ma, .int (nI (ml)), .ref oa, .int (nI (on)), .ref ba, .ref h0, .ref c0]))] L F (fun r8 cx8 L8 F8 => r8 = none ∧ cx8 = [(xx, .inr (6, [.ref ka, .int (nI (nk)), .ref sa, .long (tr), .ref ma, .int (nI (0)), .ref oa, .int (nI (on)), .ref ba, .ref h0, .ref c0]))] ∧ L = L8 ∧ F = F8 ∧ (True)) := by
  refine K_start (by decide) rfl rfl (Nat.le_of_ble_eq_true rfl) (fun g A Q hgl C r => ?_)
  subst hgl
  show G g muX4_emptyMessage E A 0 0 Q [(xx, .inr (6, [.ref ka, .int (nI (nk)), .ref sa, .long (tr), .ref ma, .int (nI (ml)), .ref oa, .int (nI (on)), .ref ba, .ref h0, .ref c0]))] L F 0 [(0, .ref xx)] []
  refine g_aload_n C dX4_emptyMessage_0 rfl 0 rfl ?_
  refine g_iconst (v := nI (0)) C dX4_emptyMessage_1 (by decide) ?_
  refine g_putX (X' := [(xx, .inr (6, [.ref ka, .int (nI (nk)), .ref sa, .long (tr), .ref ma, .int (nI (0)), .ref oa, .int (nI (on)), .ref ba, .ref h0, .ref c0]))]) C 0 rfl rfl inX4 tyX4 tyX4_ok nmX4 5 (by decide) m_87 rfl rfl rfl (Nat.le_of_ble_eq_true rfl) rfl dX4_emptyMessage_2 ?_
  exact g_vret C r rfl ⟨rfl, rfl, rfl, rfl, trivial⟩ rfl nN dX4_emptyMessage_5
abbrev muX4_answerBits : Mu := (cX4_answerBits, 5, RX4, none, "answerBits", 1, 0, 0, 21)
theorem hd_X4_answerBits : yX4_answerBits.cls = RX4 ∧ yX4_answerBits.cls ≠ "java/lang/invoke/MethodHandle" ∧ yX4_answerBits.cls ≠ "java/lang/invoke/VarHandle" ∧ (parseMethodDescriptor yX4_answerBits.desc).map (fun d => d.parameters.length) = some 2 := by decide +kernel
set_option maxHeartbeats 4000000 in
set_option maxRecDepth 100000 in
theorem k_X4_answerBits (l : Launch) (E : Ev) (xx ka sa ma oa ba h0 c0 nk ml on : Nat) (tr : Int64) (q0 : Nat) (src ov : Nat → Int32) (bi : Nat) (L : List Nat) (F : Nat → va_E) (hb : bi ≤ 128) : KC l E yX4_answerBits muX4_answerBits [.ref xx, .ref q0, .int (nI (bi))] [(xx, .inr (6, [.ref ka, .int (nI (nk)), .ref sa, .long (tr), .ref ma, .int (nI (ml)), .ref oa, .int (nI (on)), .ref ba, .ref h0, .ref c0])), (oa, aI E 16 (ov)), (q0, aI E 16 (src))] L F (fun r8 cx8 L8 F8 => r8 = none ∧ cx8 = [(xx, .inr (6, [.ref ka, .int (nI (nk)), .ref sa, .long (tr), .ref ma, .int (nI (ml)), .ref oa, .int (nI ((bi + 7) / 8)), .ref ba, .ref h0, .ref c0])), (oa, aI E 16 (ansF src bi)), (q0, aI E 16 (src))] ∧ L = L8 ∧ F = F8 ∧ (True)) := by
  refine K_start (by decide) rfl rfl (Nat.le_of_ble_eq_true rfl) (fun g A Q hgl C r => ?_)
  subst hgl
  show G g muX4_answerBits E A 0 0 Q [(xx, .inr (6, [.ref ka, .int (nI (nk)), .ref sa, .long (tr), .ref ma, .int (nI (ml)), .ref oa, .int (nI (on)), .ref ba, .ref h0, .ref c0])), (oa, aI E 16 (ov)), (q0, aI E 16 (src))] L F 0 [(0, .ref xx), (1, .ref q0), (2, .int (nI (bi)))] []
  refine g_iconst (v := nI (0)) C dX4_answerBits_0 (by decide) ?_
  refine g_istore_n (lv' := [(3, .int (nI (0))), (0, .ref xx), (1, .ref q0), (2, .int (nI (bi)))]) C dX4_answerBits_1 rfl (by decide) rfl ?_
  have lp2 : ∀ (n2 : Nat) (i : Nat) (f : Nat → Int32), (i ≤ 16) → (pfx f (ansF src bi) i) → 17 ≤ i + n2 → G g muX4_answerBits E A 0 0 Q [(xx, .inr (6, [.ref ka, .int (nI (nk)), .ref sa, .long (tr), .ref ma, .int (nI (ml)), .ref oa, .int (nI (on)), .ref ba, .ref h0, .ref c0])), (oa, aI E 16 (f)), (q0, aI E 16 (src))] L F 2 [(0, .ref xx), (1, .ref q0), (2, .int (nI (bi))), (3, .int (nI (i)))] [] := by
    intro n2
    induction n2 with
    | zero => intro i f hi hf hfu2; exact absurd hfu2 (by omega)
    | succ n2 ih2 =>
      intro i f hi hf hfu2
      refine g_iload_n C dX4_answerBits_2 rfl 3 rfl ?_
      refine g_bipush (v := nI (16)) C dX4_answerBits_3 (by decide) ?_
      refine g_nicmp_ge (tgt := 46) C dX4_answerBits_5 (by decide) (by omega) (by omega) (fun c5 => ?_) (fun c5 => ?_)
      · skip
        refine g_cgI (f' := ansF src bi) (X' := [(xx, .inr (6, [.ref ka, .int (nI (nk)), .ref sa, .long (tr), .ref ma, .int (nI (ml)), .ref oa, .int (nI (on)), .ref ba, .ref h0, .ref c0])), (oa, aI E 16 (ansF src bi)), (q0, aI E 16 (src))]) 1 rfl (fun j hj => hf j (by omega)) rfl ?_
        refine g_aload_n C dX4_answerBits_46 rfl 0 rfl ?_
        refine g_iload_n C dX4_answerBits_47 rfl 2 rfl ?_
        refine g_bipush (v := nI (7)) C dX4_answerBits_48 (by decide) ?_
        refine g_iadd C dX4_answerBits_50 ?_
        refine g_asi (nI_add _ _) ?_
        refine g_bipush (v := nI (8)) C dX4_answerBits_51 (by decide) ?_
        refine g_idiv C dX4_answerBits_53 (by decide) ?_
        refine g_asi (pk_div (by omega) (by decide) (by decide)) ?_
        refine g_putX (X' := [(xx, .inr (6, [.ref ka, .int (nI (nk)), .ref sa, .long (tr), .ref ma, .int (nI (ml)), .ref oa, .int (nI ((bi + 7) / 8)), .ref ba, .ref h0, .ref c0])), (oa, aI E 16 (ansF src bi)), (q0, aI E 16 (src))]) C 0 rfl rfl inX4 tyX4 tyX4_ok nmX4 7 (by decide) m_89 rfl rfl rfl (Nat.le_of_ble_eq_true rfl) rfl dX4_answerBits_54 ?_
        exact g_vret C r rfl ⟨rfl, rfl, rfl, rfl, trivial⟩ rfl nN dX4_answerBits_57
      · skip
        refine g_iconst (v := nI (0)) C dX4_answerBits_8 (by decide) ?_
        refine g_bipush (v := nI (8)) C dX4_answerBits_9 (by decide) ?_
        refine g_iload_n C dX4_answerBits_11 rfl 2 rfl ?_
        refine g_bipush (v := nI (8)) C dX4_answerBits_12 (by decide) ?_
        refine g_iload_n C dX4_answerBits_14 rfl 3 rfl ?_
        refine g_imul C dX4_answerBits_15 ?_
        refine g_asi (pk_mul _ _) ?_
        refine g_isub C dX4_answerBits_16 ?_
        refine g_mmin C m_220 m_221 m_8 m_222 (by decide) (Nat.le_of_ble_eq_true rfl) (Nat.le_of_ble_eq_true rfl) (Nat.le_of_ble_eq_true rfl) dX4_answerBits_17 ?_
        refine g_mmax C m_223 m_224 m_8 m_225 (by decide) (Nat.le_of_ble_eq_true rfl) (Nat.le_of_ble_eq_true rfl) (Nat.le_of_ble_eq_true rfl) dX4_answerBits_20 ?_
        refine g_istore (lv' := [(4, .int (imax (nI (0)) (imin (nI (8)) ((nI (bi)) - (nI (8 * i)))))), (0, .ref xx), (1, .ref q0), (2, .int (nI (bi))), (3, .int (nI (i)))]) C dX4_answerBits_23 (by decide) rfl ?_
        refine g_aload_n C dX4_answerBits_25 rfl 1 rfl ?_
        refine g_getX C 0 rfl rfl inX4 6 (by decide) m_88 rfl dX4_answerBits_26 ?_
        refine g_iload_n C dX4_answerBits_29 rfl 4 rfl ?_
        refine g_aload_n C dX4_answerBits_30 rfl 2 rfl ?_
        refine g_iload_n C dX4_answerBits_31 rfl 4 rfl ?_
        refine g_iald C 2 rfl (by omega) (by decide) dX4_answerBits_32 ?_
        refine g_ldc C m_226 dX4_answerBits_33 ?_
        refine g_iload C dX4_answerBits_35 0 rfl ?_
        refine g_ishr C dX4_answerBits_37 ?_
        refine g_iand C dX4_answerBits_38 ?_
        refine g_iast (X' := [(xx, .inr (6, [.ref ka, .int (nI (nk)), .ref sa, .long (tr), .ref ma, .int (nI (ml)), .ref oa, .int (nI (on)), .ref ba, .ref h0, .ref c0])), (oa, aI E 16 (upd f i ((src i) &&& (65280 >>> ((imax (nI (0)) (imin (nI (8)) ((nI (bi)) - (nI (8 * i))))) &&& 31))))), (q0, aI E 16 (src))]) C 1 rfl (by omega) (by decide) rfl dX4_answerBits_39 ?_
        refine g_iinc (v := nI (i + 1)) (lv' := [(3, .int (nI (i + 1))), (4, .int (imax (nI (0)) (imin (nI (8)) ((nI (bi)) - (nI (8 * i)))))), (0, .ref xx), (1, .ref q0), (2, .int (nI (bi)))]) C dX4_answerBits_40 4 rfl (nI_inc _ 1) (by decide) rfl ?_
        refine g_goto (tgt := 2) C dX4_answerBits_43 (by decide) ?_
        refine g_lv [2, 3, 4, 0] rfl ?_
        exact ih2 (i + 1) (upd f i ((src i) &&& (65280 >>> ((imax (nI (0)) (imin (nI (8)) ((nI (bi)) - (nI (8 * i))))) &&& 31)))) (by omega) (pfS hf rfl) (by omega)
  refine g_lv [1, 2, 3, 0] rfl ?_
  exact lp2 17 0 ov (Nat.zero_le _) pf0 (by omega)
abbrev muX4_octet : Mu := (cX4_octet, 2, RX4, none, "octet", 0, 0, 0, 0)
theorem hd_X4_octet : yX4_octet.cls = RX4 ∧ yX4_octet.cls ≠ "java/lang/invoke/MethodHandle" ∧ yX4_octet.cls ≠ "java/lang/invoke/VarHandle" ∧ (parseMethodDescriptor yX4_octet.desc).map (fun d => d.parameters.length) = some 1 := by decide +kernel
set_option maxHeartbeats 4000000 in
set_option maxRecDepth 100000 in
theorem k_X4_octet (l : Launch) (E : Ev) (xx ka sa ma oa ba h0 c0 nk ml on : Nat) (tr : Int64) (msg : Nat → Int32) (b : Int32) (L : List Nat) (F : Nat → va_E) (hml : ml ≤ 300) : KC l E yX4_octet muX4_octet [.ref xx, .int (b)] [(xx, .inr (6, [.ref ka, .int (nI (nk)), .ref sa, .long (tr), .ref ma, .int (nI (ml)), .ref oa, .int (nI (on)), .ref ba, .ref h0, .ref c0])), (ma, aI E 300 (msg))] L F (fun r8 cx8 L8 F8 => ∃ (ml1 : Nat) (msg1 : Nat → Int32), r8 = none ∧ cx8 = [(xx, .inr (6, [.ref ka, .int (nI (nk)), .ref sa, .long (tr), .ref ma, .int (nI (ml1)), .ref oa, .int (nI (on)), .ref ba, .ref h0, .ref c0])), (ma, aI E 300 (msg1))] ∧ L = L8 ∧ F = F8 ∧ ((ml1, msg1) = octS ml msg b)) := by
  refine K_start (by decide) rfl rfl (Nat.le_of_ble_eq_true rfl) (fun g A Q hgl C r => ?_)
  subst hgl
  show G g muX4_octet E A 0 0 Q [(xx, .inr (6, [.ref ka, .int (nI (nk)), .ref sa, .long (tr), .ref ma, .int (nI (ml)), .ref oa, .int (nI (on)), .ref ba, .ref h0, .ref c0])), (ma, aI E 300 (msg))] L F 0 [(0, .ref xx), (1, .int (b))] []
  refine g_aload_n C dX4_octet_0 rfl 0 rfl ?_
  refine g_getX C 0 rfl rfl inX4 5 (by decide) m_87 rfl dX4_octet_1 ?_
  refine g_sipush (v := nI (300)) C dX4_octet_4 (by decide) ?_
  refine g_nicmp_ge (tgt := 34) C dX4_octet_7 (by decide) (by omega) (by omega) (fun c7 => ?_) (fun c7 => ?_)
  · skip
    exact g_vret C r rfl ⟨ml, msg, rfl, rfl, rfl, rfl, by unfold octS; rw [if_neg (by omega)]⟩ rfl nN dX4_octet_34
  · skip
    refine g_aload_n C dX4_octet_10 rfl 0 rfl ?_
    refine g_getX C 0 rfl rfl inX4 4 (by decide) m_86 rfl dX4_octet_11 ?_
    refine g_aload_n C dX4_octet_14 rfl 0 rfl ?_
    refine g_getX C 0 rfl rfl inX4 5 (by decide) m_87 rfl dX4_octet_15 ?_
    refine g_iload_n C dX4_octet_18 rfl 1 rfl ?_
    refine g_sipush (v := nI (255)) C dX4_octet_19 (by decide) ?_
    refine g_iand C dX4_octet_22 ?_
    refine g_iast (X' := [(xx, .inr (6, [.ref ka, .int (nI (nk)), .ref sa, .long (tr), .ref ma, .int (nI (ml)), .ref oa, .int (nI (on)), .ref ba, .ref h0, .ref c0])), (ma, aI E 300 (upd msg ml (b &&& (nI (255)))))]) C 1 rfl (by omega) (by decide) rfl dX4_octet_23 ?_
    refine g_aload_n C dX4_octet_24 rfl 0 rfl ?_
    refine g_dup C dX4_octet_25 rfl ?_
    refine g_getX C 0 rfl rfl inX4 5 (by decide) m_87 rfl dX4_octet_26 ?_
    refine g_iconst (v := nI (1)) C dX4_octet_29 (by decide) ?_
    refine g_iadd C dX4_octet_30 ?_
    refine g_asi (nI_add _ _) ?_
    refine g_putX (X' := [(xx, .inr (6, [.ref ka, .int (nI (nk)), .ref sa, .long (tr), .ref ma, .int (nI (ml + 1)), .ref oa, .int (nI (on)), .ref ba, .ref h0, .ref c0])), (ma, aI E 300 (upd msg ml (b &&& (nI (255)))))]) C 0 rfl rfl inX4 tyX4 tyX4_ok nmX4 5 (by decide) m_87 rfl rfl rfl (Nat.le_of_ble_eq_true rfl) rfl dX4_octet_31 ?_
    exact g_vret C r rfl ⟨ml + 1, upd msg ml (b &&& (nI (255))), rfl, rfl, rfl, rfl, by unfold octS; rw [if_pos c7]⟩ rfl nN dX4_octet_34
abbrev muX4_key : Mu := (cX4_key, 1, RX4, (some .int), "key", 2, 2, 19, 40)
theorem hd_X4_key : yX4_key.cls = RX4 ∧ yX4_key.cls ≠ "java/lang/invoke/MethodHandle" ∧ yX4_key.cls ≠ "java/lang/invoke/VarHandle" ∧ (parseMethodDescriptor yX4_key.desc).map (fun d => d.parameters.length) = some 0 := by decide +kernel
set_option maxHeartbeats 4000000 in
set_option maxRecDepth 100000 in
theorem k_X4_key (l : Launch) (E : Ev) (xx ka sa ma oa ba h0 c0 nk ml on : Nat) (tr : Int64) (kr sr : Nat → Option Nat) (ko : Nat → Nat → Int32) (kn : Nat → Nat) (kc sc : Nat → Int64) (sb : Nat → Nat) (sl : Nat → Int32) (L : List Nat) (F : Nat → va_E) (hnk : nk ≤ 16) (hPS : PS E L F kr sr nk ko kn kc sc sb sl) : KC l E yX4_key muX4_key [.ref xx] [(xx, .inr (6, [.ref ka, .int (nI (nk)), .ref sa, .long (tr), .ref ma, .int (nI (ml)), .ref oa, .int (nI (on)), .ref ba, .ref h0, .ref c0])), (ka, aK E 16 (kr))] L F (fun r8 cx8 L8 F8 => ∃ (nk1 : Nat) (kr1 : Nat → Option Nat) (r1 : Int32) (L1 : List Nat) (F1 : Nat → va_E) (ko1 : Nat → Nat → Int32) (kn1 : Nat → Nat) (kc1 : Nat → Int64), r8 = some (.int (r1)) ∧ cx8 = [(xx, .inr (6, [.ref ka, .int (nI (nk1)), .ref sa, .long (tr), .ref ma, .int (nI (ml)), .ref oa, .int (nI (on)), .ref ba, .ref h0, .ref c0])), (ka, aK E 16 (kr1))] ∧ L1 = L8 ∧ F1 = F8 ∧ (PS E L1 F1 kr1 sr nk1 ko1 kn1 kc1 sc sb sl ∧ (r1, nk1, ko1, kn1, kc1) = keyS nk ko kn kc)) := by
  refine K_start (by decide) rfl rfl (Nat.le_of_ble_eq_true rfl) (fun g A Q hgl C r => ?_)
  subst hgl
  show G g muX4_key E A 0 0 Q [(xx, .inr (6, [.ref ka, .int (nI (nk)), .ref sa, .long (tr), .ref ma, .int (nI (ml)), .ref oa, .int (nI (on)), .ref ba, .ref h0, .ref c0])), (ka, aK E 16 (kr))] L F 0 [(0, .ref xx)] []
  refine g_aload_n C dX4_key_0 rfl 0 rfl ?_
  refine g_getX C 0 rfl rfl inX4 1 (by decide) m_83 rfl dX4_key_1 ?_
  refine g_bipush (v := nI (16)) C dX4_key_4 (by decide) ?_
  refine g_nicmp_lt (tgt := 12) C dX4_key_6 (by decide) (by omega) (by omega) (fun c6 => ?_) (fun c6 => ?_)
  · skip
    refine g_aload_n C dX4_key_12 rfl 0 rfl ?_
    refine g_getX C 0 rfl rfl inX4 0 (by decide) m_82 rfl dX4_key_13 ?_
    refine g_aload_n C dX4_key_16 rfl 0 rfl ?_
    refine g_getX C 0 rfl rfl inX4 1 (by decide) m_83 rfl dX4_key_17 ?_
    refine g_new (fs := [.null, .int (0), .long (0)]) C 4 rfl inX2 tyX2 tyX2_ok m_24 m_120 m_6 (fun j hj => by match j, hj with | 0, _ => rfl | 1, _ => rfl | 2, _ => rfl) (by decide) (by decide) dX4_key_20 (fun kq => ?_)
    show G g muX4_key E A (0 + 1) (0 + 3) Q [(xx, .inr (6, [.ref ka, .int (nI (nk)), .ref sa, .long (tr), .ref ma, .int (nI (ml)), .ref oa, .int (nI (on)), .ref ba, .ref h0, .ref c0])), (ka, aK E 16 (kr)), (kq, .inr (4, [.null, .int (0), .long (0)]))] L F 23 [(0, .ref xx)] [.ref kq, .int (nI (nk)), .ref ka]
    refine g_dup C dX4_key_23 rfl ?_
    refine g_callIN (v := muX2_init) (cx := [(kq, .inr (4, [.null, .int (0), .long (0)]))]) C (k_X2_init (gl g) E kq L F ) [2] rfl (by decide) rfl nn_X4_54 gi_X4_54 gi_X4_54_n gi_X4_54_i rfl hd_X2_init.2 ⟨Nat.le_of_ble_eq_true rfl, Nat.le_of_ble_eq_true rfl⟩ rfl rfl (Nat.le_of_ble_eq_true rfl) ⟨Nat.le_of_ble_eq_true rfl, Nat.le_of_ble_eq_true rfl⟩ dX4_key_24 (fun r9 cx9 L9 F9 hp9 hf9 hN9 => ?_)
    obtain ⟨oq, rfl, rfl, rfl, rfl, -⟩ := hp9
    show G g muX4_key E A (0 + 1 + 1) (0 + 3 + 16) Q [(xx, .inr (6, [.ref ka, .int (nI (nk)), .ref sa, .long (tr), .ref ma, .int (nI (ml)), .ref oa, .int (nI (on)), .ref ba, .ref h0, .ref c0])), (ka, aK E 16 (kr)), (kq, .inr (4, [.ref oq, .int (0), .long (0)]))] (L ++ [oq]) (va_up F oq (aI E 16 (fun _ => 0))) 27 [(0, .ref xx)] [.ref kq, .int (nI (nk)), .ref ka]
    refine g_kast (X' := [(xx, .inr (6, [.ref ka, .int (nI (nk)), .ref sa, .long (tr), .ref ma, .int (nI (ml)), .ref oa, .int (nI (on)), .ref ba, .ref h0, .ref c0])), (ka, aK E 16 (va_up kr nk (some kq))), (kq, .inr (4, [.ref oq, .int (0), .long (0)]))]) C 1 2 rfl rfl (by omega) (by decide) rfl dX4_key_27 ?_
    refine g_aload_n C dX4_key_28 rfl 0 rfl ?_
    refine g_dup C dX4_key_29 rfl ?_
    refine g_getX C 0 rfl rfl inX4 1 (by decide) m_83 rfl dX4_key_30 ?_
    refine g_iconst (v := nI (1)) C dX4_key_33 (by decide) ?_
    refine g_iadd C dX4_key_34 ?_
    refine g_asi (nI_add _ _) ?_
    refine g_putX (X' := [(xx, .inr (6, [.ref ka, .int (nI (nk + 1)), .ref sa, .long (tr), .ref ma, .int (nI (ml)), .ref oa, .int (nI (on)), .ref ba, .ref h0, .ref c0])), (ka, aK E 16 (va_up kr nk (some kq))), (kq, .inr (4, [.ref oq, .int (0), .long (0)]))]) C 0 rfl rfl inX4 tyX4 tyX4_ok nmX4 1 (by decide) m_83 rfl rfl rfl (Nat.le_of_ble_eq_true rfl) rfl dX4_key_35 ?_
    refine g_aload_n C dX4_key_38 rfl 0 rfl ?_
    refine g_getX C 0 rfl rfl inX4 1 (by decide) m_83 rfl dX4_key_39 ?_
    refine g_toP (X := [(xx, .inr (6, [.ref ka, .int (nI (nk + 1)), .ref sa, .long (tr), .ref ma, .int (nI (ml)), .ref oa, .int (nI (on)), .ref ba, .ref h0, .ref c0])), (ka, aK E 16 (va_up kr nk (some kq)))]) (a := kq) (c := .inr (4, [.ref oq, .int (0), .long (0)])) ?_
    refine g_nd (fun hnd => ?_)
    refine g_cells (ce' := uC muX4_key) (sl' := uS muX4_key) (Nat.le_of_ble_eq_true rfl) (Nat.le_of_ble_eq_true rfl) ?_
    exact g_iret C r rfl ⟨nk + 1, va_up kr nk (some kq), nI (nk + 1), L ++ [oq] ++ [kq], va_up (va_up F oq (aI E 16 (fun _ => 0))) kq (.inr (4, [.ref oq, .int (0), .long (0)])), va_up ko nk (fun _ => 0), va_up kn nk 0, va_up kc nk 0, rfl, rfl, rfl, rfl, hPS.new (nd_new hnd).2.1 (nd_new hnd).1 (nd_new hnd).2.2, by unfold keyS; rw [if_pos c6]⟩ rfl nN2 dX4_key_42
  · skip
    refine g_bipush (v := (-4 : Int32)) C dX4_key_9 (by decide) ?_
    refine g_cells (ce' := uC muX4_key) (sl' := uS muX4_key) (Nat.le_of_ble_eq_true rfl) (Nat.le_of_ble_eq_true rfl) ?_
    exact g_iret C r rfl ⟨nk, kr, -4, L, F, ko, kn, kc, rfl, rfl, rfl, rfl, hPS, by unfold keyS; rw [if_neg (by omega)]⟩ rfl nN dX4_key_11
abbrev muX4_keyByte : Mu := (cX4_keyByte, 4, RX4, none, "keyByte", 1, 0, 0, 21)
theorem hd_X4_keyByte : yX4_keyByte.cls = RX4 ∧ yX4_keyByte.cls ≠ "java/lang/invoke/MethodHandle" ∧ yX4_keyByte.cls ≠ "java/lang/invoke/VarHandle" ∧ (parseMethodDescriptor yX4_keyByte.desc).map (fun d => d.parameters.length) = some 2 := by decide +kernel
set_option maxHeartbeats 4000000 in
set_option maxRecDepth 100000 in
theorem k_X4_keyByte (l : Launch) (E : Ev) (xx ka sa ma oa ba h0 c0 nk ml on : Nat) (tr : Int64) (kr sr : Nat → Option Nat) (ko : Nat → Nat → Int32) (kn : Nat → Nat) (kc sc : Nat → Int64) (sb : Nat → Nat) (sl : Nat → Int32) (k b : Int32) (L : List Nat) (F : Nat → va_E) (hnk : nk ≤ 16) (hPS : PS E L F kr sr nk ko kn kc sc sb sl) : KC l E yX4_keyByte muX4_keyByte [.ref xx, .int (k), .int (b)] [(xx, .inr (6, [.ref ka, .int (nI (nk)), .ref sa, .long (tr), .ref ma, .int (nI (ml)), .ref oa, .int (nI (on)), .ref ba, .ref h0, .ref c0])), (ka, aK E 16 (kr))] L F (fun r8 cx8 L8 F8 => ∃ (F1 : Nat → va_E) (ko1 : Nat → Nat → Int32) (kn1 : Nat → Nat), r8 = none ∧ cx8 = [(xx, .inr (6, [.ref ka, .int (nI (nk)), .ref sa, .long (tr), .ref ma, .int (nI (ml)), .ref oa, .int (nI (on)), .ref ba, .ref h0, .ref c0])), (ka, aK E 16 (kr))] ∧ L = L8 ∧ F1 = F8 ∧ (PS E L F1 kr sr nk ko1 kn1 kc sc sb sl ∧ (ko1, kn1) = kbS nk ko kn k b)) := by
  refine K_start (by decide) rfl rfl (Nat.le_of_ble_eq_true rfl) (fun g A Q hgl C r => ?_)
  subst hgl
  show G g muX4_keyByte E A 0 0 Q [(xx, .inr (6, [.ref ka, .int (nI (nk)), .ref sa, .long (tr), .ref ma, .int (nI (ml)), .ref oa, .int (nI (on)), .ref ba, .ref h0, .ref c0])), (ka, aK E 16 (kr))] L F 0 [(0, .ref xx), (1, .int (k)), (2, .int (b))] []
  refine g_aload_n C dX4_keyByte_0 rfl 0 rfl ?_
  refine g_iload_n C dX4_keyByte_1 rfl 1 rfl ?_
  refine g_callV (v := muX4_findKey) (cx := [(xx, .inr (6, [.ref ka, .int (nI (nk)), .ref sa, .long (tr), .ref ma, .int (nI (ml)), .ref oa, .int (nI (on)), .ref ba, .ref h0, .ref c0])), (ka, aK E 16 (kr))]) C (k_X4_findKey (gl g) E xx ka sa ma oa ba h0 c0 nk ml on tr kr k L F hnk) [0, 1] rfl (by decide) 0 rfl rfl gi_X4_55 hd_X4_findKey ⟨Nat.le_of_ble_eq_true rfl, Nat.le_of_ble_eq_true rfl⟩ rfl rfl (Nat.le_of_ble_eq_true rfl) ⟨Nat.le_of_ble_eq_true rfl, Nat.le_of_ble_eq_true rfl⟩ dX4_keyByte_2 (fun r9 cx9 L9 F9 hp9 hf9 hN9 => ?_)
  obtain ⟨rfl, rfl, rfl, rfl, -⟩ := hp9
  show G g muX4_keyByte E A 0 0 Q [(xx, .inr (6, [.ref ka, .int (nI (nk)), .ref sa, .long (tr), .ref ma, .int (nI (ml)), .ref oa, .int (nI (on)), .ref ba, .ref h0, .ref c0])), (ka, aK E 16 (kr))] L F 5 [(0, .ref xx), (1, .int (k)), (2, .int (b))] [va_rf ((kf nk k).bind kr)]
  rcases hkf : kf nk k with _ | i
  · skip
    show G g muX4_keyByte E A 0 0 Q [(xx, .inr (6, [.ref ka, .int (nI (nk)), .ref sa, .long (tr), .ref ma, .int (nI (ml)), .ref oa, .int (nI (on)), .ref ba, .ref h0, .ref c0])), (ka, aK E 16 (kr))] L F 5 [(0, .ref xx), (1, .int (k)), (2, .int (b))] [.null]
    refine g_astore_nN (lv' := [(3, .null), (0, .ref xx), (1, .int (k)), (2, .int (b))]) C dX4_keyByte_5 rfl (by decide) rfl ?_
    refine g_aload_nN C dX4_keyByte_6 rfl 0 rfl ?_
    refine g_ifnullN (tgt := 19) C dX4_keyByte_7 (by decide) ?_
    exact g_vret C r rfl ⟨F, ko, kn, rfl, rfl, rfl, rfl, hPS, by unfold kbS; rw [hkf]⟩ rfl nN dX4_keyByte_19
  · skip
    obtain ⟨hi_a, hke_a⟩ := kf_some (by omega) hkf
    obtain ⟨a, o, hkr_a, hkL_a, hkF_a, hoL_a, hoF_a, hkn_a, hne_a, hset⟩ := hPS.key hi_a
    rw [show Option.bind (some i) kr = some a from hkr_a]
    show G g muX4_keyByte E A 0 0 Q [(xx, .inr (6, [.ref ka, .int (nI (nk)), .ref sa, .long (tr), .ref ma, .int (nI (ml)), .ref oa, .int (nI (on)), .ref ba, .ref h0, .ref c0])), (ka, aK E 16 (kr))] L F 5 [(0, .ref xx), (1, .int (k)), (2, .int (b))] [.ref a]
    refine g_astore_n (lv' := [(3, .ref a), (0, .ref xx), (1, .int (k)), (2, .int (b))]) C dX4_keyByte_5 rfl (by decide) rfl ?_
    refine g_aload_n C dX4_keyByte_6 rfl 0 rfl ?_
    refine g_ifnull C dX4_keyByte_7 ?_
    refine g_aload_n C dX4_keyByte_10 rfl 0 rfl ?_
    refine g_iload_n C dX4_keyByte_11 rfl 3 rfl ?_
    refine g_sipush (v := nI (255)) C dX4_keyByte_12 (by decide) ?_
    refine g_iand C dX4_keyByte_15 ?_
    refine g_callP (v := muX2_putNext) (cx := []) C (k_X2_putNext (gl g) E a o (ko i) (kn i) (kc i) (b &&& nI 255) L F hkL_a hkF_a hoL_a hoF_a hkn_a) [] rfl (by decide) hkL_a hkF_a rfl gi_X4_59 hd_X2_putNext ⟨Nat.le_of_ble_eq_true rfl, Nat.le_of_ble_eq_true rfl⟩ rfl rfl (Nat.le_of_ble_eq_true rfl) ⟨Nat.le_of_ble_eq_true rfl, Nat.le_of_ble_eq_true rfl⟩ dX4_keyByte_16 (fun r9 cx9 L9 F9 hp9 hf9 hN9 => ?_)
    obtain ⟨rfl, rfl, rfl, rfl, -⟩ := hp9
    show G g muX4_keyByte E A 0 0 Q [(xx, .inr (6, [.ref ka, .int (nI (nk)), .ref sa, .long (tr), .ref ma, .int (nI (ml)), .ref oa, .int (nI (on)), .ref ba, .ref h0, .ref c0])), (ka, aK E 16 (kr))] L (va_up (va_up F o (aI E 16 (upd (ko i) ((kn i) % 16) (b &&& nI 255)))) a (.inr (4, [.ref o, .int (nI ((kn i) % 16 + 1)), .long (kc i)]))) 19 [(3, .ref a), (0, .ref xx), (1, .int (k)), (2, .int (b))] []
    exact g_vret C r rfl ⟨va_up (va_up F o (aI E 16 (upd (ko i) ((kn i) % 16) (b &&& nI 255)))) a (.inr (4, [.ref o, .int (nI ((kn i) % 16 + 1)), .long (kc i)])), va_up ko i (upd (ko i) (kn i % 16) (b &&& nI 255)), va_up kn i (kn i % 16 + 1), rfl, rfl, rfl, rfl, ps_k (hset _ _ (kc i) (by omega)), by unfold kbS; rw [hkf]⟩ rfl nN dX4_keyByte_19
abbrev muX4_code : Mu := (cX4_code, 4, RX4, (some .int), "code", 5, 0, 0, 113)
theorem hd_X4_code : yX4_code.cls = RX4 ∧ yX4_code.cls ≠ "java/lang/invoke/MethodHandle" ∧ yX4_code.cls ≠ "java/lang/invoke/VarHandle" ∧ (parseMethodDescriptor yX4_code.desc).map (fun d => d.parameters.length) = some 2 := by decide +kernel
set_option maxHeartbeats 4000000 in
set_option maxRecDepth 100000 in
theorem k_X4_code (l : Launch) (E : Ev) (xx ka sa ma oa ba h0 c0 nk ml on : Nat) (tr : Int64) (kr sr : Nat → Option Nat) (ko : Nat → Nat → Int32) (kn : Nat → Nat) (kc sc : Nat → Int64) (sb : Nat → Nat) (sl : Nat → Int32) (r0 t0 k0 x0 : Nat) (f tn sk res : Nat → Int32) (fi : Int32) (msg ov : Nat → Int32) (k bits : Int32) (L : List Nat) (F : Nat → va_E) (hnk : nk ≤ 16) (hml : ml ≤ 300) (hPS : PS E L F kr sr nk ko kn kc sc sb sl) : KC l E yX4_code muX4_code [.ref xx, .int (k), .int (bits)] [(xx, .inr (6, [.ref ka, .int (nI (nk)), .ref sa, .long (tr), .ref ma, .int (nI (ml)), .ref oa, .int (nI (on)), .ref ba, .ref h0, .ref c0])), (ka, aK E 16 (kr)), (ma, aI E 300 (msg)), (oa, aI E 16 (ov)), (h0, .inr (2, [.ref r0, .ref t0])), (r0, aI E 176 (f)), (t0, aI E 16 (tn)), (c0, .inr (3, [.ref h0, .ref k0, .ref x0, .int (fi)])), (k0, aI E 16 (sk)), (x0, aI E 16 (res))] L F (fun r8 cx8 L8 F8 => ∃ (r1 : Int32) (ml1 on1 : Nat) (ov1 f1 tn1 sk1 res1 : Nat → Int32) (fi1 : Int32), r8 = some (.int (r1)) ∧ cx8 = [(xx, .inr (6, [.ref ka, .int (nI (nk)), .ref sa, .long (tr), .ref ma, .int (nI (ml1)), .ref oa, .int (nI (on1)), .ref ba, .ref h0, .ref c0])), (ka, aK E 16 (kr)), (ma, aI E 300 (msg)), (oa, aI E 16 (ov1)), (h0, .inr (2, [.ref r0, .ref t0])), (r0, aI E 176 (f1)), (t0, aI E 16 (tn1)), (c0, .inr (3, [.ref h0, .ref k0, .ref x0, .int (fi1)])), (k0, aI E 16 (sk1)), (x0, aI E 16 (res1))] ∧ L = L8 ∧ F = F8 ∧ ((r1, ml1, on1, ov1) = cdS nk ko ml msg on ov k bits)) := by
  refine K_start (by decide) rfl rfl (Nat.le_of_ble_eq_true rfl) (fun g A Q hgl C r => ?_)
  subst hgl
  show G g muX4_code E A 0 0 Q [(xx, .inr (6, [.ref ka, .int (nI (nk)), .ref sa, .long (tr), .ref ma, .int (nI (ml)), .ref oa, .int (nI (on)), .ref ba, .ref h0, .ref c0])), (ka, aK E 16 (kr)), (ma, aI E 300 (msg)), (oa, aI E 16 (ov)), (h0, .inr (2, [.ref r0, .ref t0])), (r0, aI E 176 (f)), (t0, aI E 16 (tn)), (c0, .inr (3, [.ref h0, .ref k0, .ref x0, .int (fi)])), (k0, aI E 16 (sk)), (x0, aI E 16 (res))] L F 0 [(0, .ref xx), (1, .int (k)), (2, .int (bits))] []
  refine g_aload_n C dX4_code_0 rfl 0 rfl ?_
  refine g_iload_n C dX4_code_1 rfl 1 rfl ?_
  refine g_callV (v := muX4_findKey) (cx := [(xx, .inr (6, [.ref ka, .int (nI (nk)), .ref sa, .long (tr), .ref ma, .int (nI (ml)), .ref oa, .int (nI (on)), .ref ba, .ref h0, .ref c0])), (ka, aK E 16 (kr))]) C (k_X4_findKey (gl g) E xx ka sa ma oa ba h0 c0 nk ml on tr kr k L F hnk) [0, 1] rfl (by decide) 0 rfl rfl gi_X4_55 hd_X4_findKey ⟨Nat.le_of_ble_eq_true rfl, Nat.le_of_ble_eq_true rfl⟩ rfl rfl (Nat.le_of_ble_eq_true rfl) ⟨Nat.le_of_ble_eq_true rfl, Nat.le_of_ble_eq_true rfl⟩ dX4_code_2 (fun r9 cx9 L9 F9 hp9 hf9 hN9 => ?_)
  obtain ⟨rfl, rfl, rfl, rfl, -⟩ := hp9
  show G g muX4_code E A 0 0 Q [(xx, .inr (6, [.ref ka, .int (nI (nk)), .ref sa, .long (tr), .ref ma, .int (nI (ml)), .ref oa, .int (nI (on)), .ref ba, .ref h0, .ref c0])), (ka, aK E 16 (kr)), (ma, aI E 300 (msg)), (oa, aI E 16 (ov)), (h0, .inr (2, [.ref r0, .ref t0])), (r0, aI E 176 (f)), (t0, aI E 16 (tn)), (c0, .inr (3, [.ref h0, .ref k0, .ref x0, .int (fi)])), (k0, aI E 16 (sk)), (x0, aI E 16 (res))] L F 5 [(0, .ref xx), (1, .int (k)), (2, .int (bits))] [va_rf ((kf nk k).bind kr)]
  rcases hkf : kf nk k with _ | i
  · skip
    show G g muX4_code E A 0 0 Q [(xx, .inr (6, [.ref ka, .int (nI (nk)), .ref sa, .long (tr), .ref ma, .int (nI (ml)), .ref oa, .int (nI (on)), .ref ba, .ref h0, .ref c0])), (ka, aK E 16 (kr)), (ma, aI E 300 (msg)), (oa, aI E 16 (ov)), (h0, .inr (2, [.ref r0, .ref t0])), (r0, aI E 176 (f)), (t0, aI E 16 (tn)), (c0, .inr (3, [.ref h0, .ref k0, .ref x0, .int (fi)])), (k0, aI E 16 (sk)), (x0, aI E 16 (res))] L F 5 [(0, .ref xx), (1, .int (k)), (2, .int (bits))] [.null]
    refine g_astore_nN (lv' := [(3, .null), (0, .ref xx), (1, .int (k)), (2, .int (bits))]) C dX4_code_5 rfl (by decide) rfl ?_
    refine g_aload_nN C dX4_code_6 rfl 0 rfl ?_
    refine g_ifnonnullN C dX4_code_7 ?_
    refine g_iconst (v := (-1 : Int32)) C dX4_code_10 (by decide) ?_
    exact g_iret C r rfl ⟨-1, ml, on, ov, f, tn, sk, res, fi, rfl, rfl, rfl, rfl, by unfold cdS; rw [hkf]⟩ rfl nN dX4_code_11
  · skip
    obtain ⟨hi_a, hke_a⟩ := kf_some (by omega) hkf
    obtain ⟨a, o, hkr_a, hkL_a, hkF_a, hoL_a, hoF_a, hkn_a, hne_a, hset⟩ := hPS.key hi_a
    rw [show Option.bind (some i) kr = some a from hkr_a]
    show G g muX4_code E A 0 0 Q [(xx, .inr (6, [.ref ka, .int (nI (nk)), .ref sa, .long (tr), .ref ma, .int (nI (ml)), .ref oa, .int (nI (on)), .ref ba, .ref h0, .ref c0])), (ka, aK E 16 (kr)), (ma, aI E 300 (msg)), (oa, aI E 16 (ov)), (h0, .inr (2, [.ref r0, .ref t0])), (r0, aI E 176 (f)), (t0, aI E 16 (tn)), (c0, .inr (3, [.ref h0, .ref k0, .ref x0, .int (fi)])), (k0, aI E 16 (sk)), (x0, aI E 16 (res))] L F 5 [(0, .ref xx), (1, .int (k)), (2, .int (bits))] [.ref a]
    refine g_astore_n (lv' := [(3, .ref a), (0, .ref xx), (1, .int (k)), (2, .int (bits))]) C dX4_code_5 rfl (by decide) rfl ?_
    refine g_aload_n C dX4_code_6 rfl 0 rfl ?_
    refine g_ifnonnull (tgt := 12) C dX4_code_7 (by decide) ?_
    refine g_iload_n C dX4_code_12 rfl 3 rfl ?_
    refine g_bipush (v := nI (32)) C dX4_code_13 (by decide) ?_
    refine g_icmp_lt (tgt := 25) C dX4_code_15 (by decide) (fun c15 => ?_) (fun c15 => ?_)
    · skip
      refine g_bipush (v := (-2 : Int32)) C dX4_code_25 (by decide) ?_
      exact g_iret C r rfl ⟨-2, ml, on, ov, f, tn, sk, res, fi, rfl, rfl, rfl, rfl, by unfold cdS; rw [hkf]; simp only [if_pos c15]⟩ rfl nN dX4_code_27
    · skip
      refine g_iload_n C dX4_code_18 rfl 3 rfl ?_
      refine g_sipush (v := nI (128)) C dX4_code_19 (by decide) ?_
      refine g_icmp_le (tgt := 28) C dX4_code_22 (by decide) (fun c22 => ?_) (fun c22 => ?_)
      · skip
        obtain ⟨bi, hb1, hb2, hbi⟩ := bits_of c15 c22
        refine g_aload_n C dX4_code_28 rfl 1 rfl ?_
        refine g_getX C 0 rfl rfl inX4 10 (by decide) m_92 rfl dX4_code_29 ?_
        refine g_aload_n C dX4_code_32 rfl 0 rfl ?_
        refine g_callV (v := muX1_begin) (cx := [(c0, .inr (3, [.ref h0, .ref k0, .ref x0, .int (fi)])), (h0, .inr (2, [.ref r0, .ref t0])), (r0, aI E 176 (f)), (x0, aI E 16 (res))]) C (k_X1_begin (gl g) E c0 h0 k0 x0 r0 t0 a o f (ko i) res (nI (kn i)) fi (kc i) L F hkL_a hkF_a hoL_a hoF_a) [7, 4, 5, 9] rfl (by decide) 7 rfl rfl gi_X4_65 hd_X1_begin ⟨Nat.le_of_ble_eq_true rfl, Nat.le_of_ble_eq_true rfl⟩ rfl rfl (Nat.le_of_ble_eq_true rfl) ⟨Nat.le_of_ble_eq_true rfl, Nat.le_of_ble_eq_true rfl⟩ dX4_code_33 (fun r9 cx9 L9 F9 hp9 hf9 hN9 => ?_)
        obtain ⟨rfl, rfl, rfl, rfl, -⟩ := hp9
        show G g muX4_code E A 0 0 Q [(xx, .inr (6, [.ref ka, .int (nI (nk)), .ref sa, .long (tr), .ref ma, .int (nI (ml)), .ref oa, .int (nI (on)), .ref ba, .ref h0, .ref c0])), (ka, aK E 16 (kr)), (ma, aI E 300 (msg)), (oa, aI E 16 (ov)), (h0, .inr (2, [.ref r0, .ref t0])), (r0, aI E 176 (rk (ko i))), (t0, aI E 16 (tn)), (c0, .inr (3, [.ref h0, .ref k0, .ref x0, .int (nI (0))])), (k0, aI E 16 (sk)), (x0, aI E 16 (fun _ => nI 0))] L F 36 [(3, .ref a), (0, .ref xx), (1, .int (k)), (2, .int (bits))] []
        refine g_aload_n C dX4_code_36 rfl 1 rfl ?_
        refine g_getX C 0 rfl rfl inX4 10 (by decide) m_92 rfl dX4_code_37 ?_
        refine g_aload_n C dX4_code_40 rfl 1 rfl ?_
        refine g_getX C 0 rfl rfl inX4 4 (by decide) m_86 rfl dX4_code_41 ?_
        refine g_aload_n C dX4_code_44 rfl 1 rfl ?_
        refine g_getX C 0 rfl rfl inX4 5 (by decide) m_87 rfl dX4_code_45 ?_
        refine g_callV (v := muX1_addOctets) (cx := [(c0, .inr (3, [.ref h0, .ref k0, .ref x0, .int (nI (0))])), (h0, .inr (2, [.ref r0, .ref t0])), (r0, aI E 176 (rk (ko i))), (t0, aI E 16 (tn)), (x0, aI E 16 (fun _ => nI 0)), (ma, aI E 300 (msg))]) C (k_X1_addOctets (gl g) E c0 h0 k0 x0 r0 t0 ma (ko i) msg tn msg 0 ml L F hml (fun j _ => by rw [Nat.zero_add])) [7, 4, 5, 6, 9, 2] rfl (by decide) 7 rfl rfl gi_X4_69 hd_X1_addOctets ⟨Nat.le_of_ble_eq_true rfl, Nat.le_of_ble_eq_true rfl⟩ rfl rfl (Nat.le_of_ble_eq_true rfl) ⟨Nat.le_of_ble_eq_true rfl, Nat.le_of_ble_eq_true rfl⟩ dX4_code_48 (fun r9 cx9 L9 F9 hp9 hf9 hN9 => ?_)
        obtain ⟨tn2, rfl, rfl, rfl, rfl, -⟩ := hp9
        show G g muX4_code E A 0 0 Q [(xx, .inr (6, [.ref ka, .int (nI (nk)), .ref sa, .long (tr), .ref ma, .int (nI (ml)), .ref oa, .int (nI (on)), .ref ba, .ref h0, .ref c0])), (ka, aK E 16 (kr)), (ma, aI E 300 (msg)), (oa, aI E 16 (ov)), (h0, .inr (2, [.ref r0, .ref t0])), (r0, aI E 176 (rk (ko i))), (t0, aI E 16 (tn2)), (c0, .inr (3, [.ref h0, .ref k0, .ref x0, .int (nI (fl (0 + ml)))])), (k0, aI E 16 (sk)), (x0, aI E 16 (acc (ko i) msg (0 + ml)))] L F 51 [(3, .ref a), (0, .ref xx), (1, .int (k)), (2, .int (bits))] []
        refine g_aload_n C dX4_code_51 rfl 1 rfl ?_
        refine g_getX C 0 rfl rfl inX4 10 (by decide) m_92 rfl dX4_code_52 ?_
        refine g_callV (v := muX1_finish) (cx := [(c0, .inr (3, [.ref h0, .ref k0, .ref x0, .int (nI (fl (0 + ml)))])), (h0, .inr (2, [.ref r0, .ref t0])), (r0, aI E 176 (rk (ko i))), (t0, aI E 16 (tn2)), (k0, aI E 16 (sk)), (x0, aI E 16 (acc (ko i) msg (0 + ml)))]) C (k_X1_finish (gl g) E c0 h0 k0 x0 r0 t0 (ko i) msg tn2 sk (0 + ml) L F ) [7, 4, 5, 6, 8, 9] rfl (by decide) 7 rfl rfl gi_X4_73 hd_X1_finish ⟨Nat.le_of_ble_eq_true rfl, Nat.le_of_ble_eq_true rfl⟩ rfl rfl (Nat.le_of_ble_eq_true rfl) ⟨Nat.le_of_ble_eq_true rfl, Nat.le_of_ble_eq_true rfl⟩ dX4_code_55 (fun r9 cx9 L9 F9 hp9 hf9 hN9 => ?_)
        obtain ⟨tn3, sk3, rfl, rfl, rfl, rfl, -⟩ := hp9
        show G g muX4_code E A 0 0 Q [(xx, .inr (6, [.ref ka, .int (nI (nk)), .ref sa, .long (tr), .ref ma, .int (nI (ml)), .ref oa, .int (nI (on)), .ref ba, .ref h0, .ref c0])), (ka, aK E 16 (kr)), (ma, aI E 300 (msg)), (oa, aI E 16 (ov)), (h0, .inr (2, [.ref r0, .ref t0])), (r0, aI E 176 (rk (ko i))), (t0, aI E 16 (tn3)), (c0, .inr (3, [.ref h0, .ref k0, .ref x0, .int (nI (fl (0 + ml)))])), (k0, aI E 16 (sk3)), (x0, aI E 16 (CMAC (ko i) msg (0 + ml)))] L F 58 [(3, .ref a), (0, .ref xx), (1, .int (k)), (2, .int (bits))] []
        refine g_cgI (f' := CMAC (ko i) msg ml) (X' := [(xx, .inr (6, [.ref ka, .int (nI (nk)), .ref sa, .long (tr), .ref ma, .int (nI (ml)), .ref oa, .int (nI (on)), .ref ba, .ref h0, .ref c0])), (ka, aK E 16 (kr)), (ma, aI E 300 (msg)), (oa, aI E 16 (ov)), (h0, .inr (2, [.ref r0, .ref t0])), (r0, aI E 176 (rk (ko i))), (t0, aI E 16 (tn3)), (c0, .inr (3, [.ref h0, .ref k0, .ref x0, .int (nI (fl (0 + ml)))])), (k0, aI E 16 (sk3)), (x0, aI E 16 (CMAC (ko i) msg ml))]) 9 rfl (fun j _ => by rw [Nat.zero_add]) rfl ?_
        refine g_aload_n C dX4_code_58 rfl 1 rfl ?_
        refine g_callV (v := muX4_emptyMessage) (cx := [(xx, .inr (6, [.ref ka, .int (nI (nk)), .ref sa, .long (tr), .ref ma, .int (nI (ml)), .ref oa, .int (nI (on)), .ref ba, .ref h0, .ref c0]))]) C (k_X4_emptyMessage (gl g) E xx ka sa ma oa ba h0 c0 nk ml on tr L F ) [0] rfl (by decide) 0 rfl rfl gi_X4_76 hd_X4_emptyMessage ⟨Nat.le_of_ble_eq_true rfl, Nat.le_of_ble_eq_true rfl⟩ rfl rfl (Nat.le_of_ble_eq_true rfl) ⟨Nat.le_of_ble_eq_true rfl, Nat.le_of_ble_eq_true rfl⟩ dX4_code_59 (fun r9 cx9 L9 F9 hp9 hf9 hN9 => ?_)
        obtain ⟨rfl, rfl, rfl, rfl, -⟩ := hp9
        show G g muX4_code E A 0 0 Q [(xx, .inr (6, [.ref ka, .int (nI (nk)), .ref sa, .long (tr), .ref ma, .int (nI (0)), .ref oa, .int (nI (on)), .ref ba, .ref h0, .ref c0])), (ka, aK E 16 (kr)), (ma, aI E 300 (msg)), (oa, aI E 16 (ov)), (h0, .inr (2, [.ref r0, .ref t0])), (r0, aI E 176 (rk (ko i))), (t0, aI E 16 (tn3)), (c0, .inr (3, [.ref h0, .ref k0, .ref x0, .int (nI (fl (0 + ml)))])), (k0, aI E 16 (sk3)), (x0, aI E 16 (CMAC (ko i) msg ml))] L F 62 [(3, .ref a), (0, .ref xx), (1, .int (k)), (2, .int (bits))] []
        refine g_aload_n C dX4_code_62 rfl 1 rfl ?_
        refine g_aload_n C dX4_code_63 rfl 1 rfl ?_
        refine g_getX C 0 rfl rfl inX4 10 (by decide) m_92 rfl dX4_code_64 ?_
        refine g_getX C 7 rfl rfl inX1 2 (by decide) m_51 rfl dX4_code_67 ?_
        refine g_iload_n C dX4_code_70 rfl 3 rfl ?_
        refine g_asi (show (bits) = (nI (bi)) from hbi) ?_
        refine g_callV (v := muX4_answerBits) (cx := [(xx, .inr (6, [.ref ka, .int (nI (nk)), .ref sa, .long (tr), .ref ma, .int (nI (0)), .ref oa, .int (nI (on)), .ref ba, .ref h0, .ref c0])), (oa, aI E 16 (ov)), (x0, aI E 16 (CMAC (ko i) msg ml))]) C (k_X4_answerBits (gl g) E xx ka sa ma oa ba h0 c0 nk 0 on tr x0 (CMAC (ko i) msg ml) ov bi L F hb2) [0, 3, 9] rfl (by decide) 0 rfl rfl gi_X4_82 hd_X4_answerBits ⟨Nat.le_of_ble_eq_true rfl, Nat.le_of_ble_eq_true rfl⟩ rfl rfl (Nat.le_of_ble_eq_true rfl) ⟨Nat.le_of_ble_eq_true rfl, Nat.le_of_ble_eq_true rfl⟩ dX4_code_71 (fun r9 cx9 L9 F9 hp9 hf9 hN9 => ?_)
        obtain ⟨rfl, rfl, rfl, rfl, -⟩ := hp9
        show G g muX4_code E A 0 0 Q [(xx, .inr (6, [.ref ka, .int (nI (nk)), .ref sa, .long (tr), .ref ma, .int (nI (0)), .ref oa, .int (nI ((bi + 7) / 8)), .ref ba, .ref h0, .ref c0])), (ka, aK E 16 (kr)), (ma, aI E 300 (msg)), (oa, aI E 16 (ansF (CMAC (ko i) msg ml) bi)), (h0, .inr (2, [.ref r0, .ref t0])), (r0, aI E 176 (rk (ko i))), (t0, aI E 16 (tn3)), (c0, .inr (3, [.ref h0, .ref k0, .ref x0, .int (nI (fl (0 + ml)))])), (k0, aI E 16 (sk3)), (x0, aI E 16 (CMAC (ko i) msg ml))] L F 74 [(3, .ref a), (0, .ref xx), (1, .int (k)), (2, .int (bits))] []
        refine g_aload_n C dX4_code_74 rfl 1 rfl ?_
        refine g_getX C 0 rfl rfl inX4 7 (by decide) m_89 rfl dX4_code_75 ?_
        exact g_iret C r rfl ⟨nI ((bi + 7) / 8), 0, (bi + 7) / 8, ansF (CMAC (ko i) msg ml) bi, rk (ko i), tn3, sk3, CMAC (ko i) msg ml, nI (fl (0 + ml)), rfl, rfl, rfl, rfl, by unfold cdS; rw [hkf]; simp only [if_neg c15, if_pos c22]; rw [hbi, nI_clamp (by omega)]⟩ rfl nN dX4_code_78
      · skip
        refine g_bipush (v := (-2 : Int32)) C dX4_code_25 (by decide) ?_
        exact g_iret C r rfl ⟨-2, ml, on, ov, f, tn, sk, res, fi, rfl, rfl, rfl, rfl, by unfold cdS; rw [hkf]; simp only [if_neg c15, if_neg c22]⟩ rfl nN dX4_code_27
abbrev muX4_check : Mu := (cX4_check, 3, RX4, (some .int), "check", 3, 0, 0, 69)
theorem hd_X4_check : yX4_check.cls = RX4 ∧ yX4_check.cls ≠ "java/lang/invoke/MethodHandle" ∧ yX4_check.cls ≠ "java/lang/invoke/VarHandle" ∧ (parseMethodDescriptor yX4_check.desc).map (fun d => d.parameters.length) = some 1 := by decide +kernel
set_option maxHeartbeats 4000000 in
set_option maxRecDepth 100000 in
theorem k_X4_check (l : Launch) (E : Ev) (xx ka sa ma oa ba h0 c0 nk ml on : Nat) (tr : Int64) (kr sr : Nat → Option Nat) (ko : Nat → Nat → Int32) (kn : Nat → Nat) (kc sc : Nat → Int64) (sb : Nat → Nat) (sl : Nat → Int32) (r0 t0 : Nat) (f tn bl : Nat → Int32) (k : Int32) (L : List Nat) (F : Nat → va_E) (hnk : nk ≤ 16) (hPS : PS E L F kr sr nk ko kn kc sc sb sl) : KC l E yX4_check muX4_check [.ref xx, .int (k)] [(xx, .inr (6, [.ref ka, .int (nI (nk)), .ref sa, .long (tr), .ref ma, .int (nI (ml)), .ref oa, .int (nI (on)), .ref ba, .ref h0, .ref c0])), (ka, aK E 16 (kr)), (ba, aI E 16 (bl)), (h0, .inr (2, [.ref r0, .ref t0])), (r0, aI E 176 (f)), (t0, aI E 16 (tn))] L F (fun r8 cx8 L8 F8 => ∃ (f1 tn1 bl1 : Nat → Int32), r8 = some (.int (ckS nk ko k)) ∧ cx8 = [(xx, .inr (6, [.ref ka, .int (nI (nk)), .ref sa, .long (tr), .ref ma, .int (nI (ml)), .ref oa, .int (nI (on)), .ref ba, .ref h0, .ref c0])), (ka, aK E 16 (kr)), (ba, aI E 16 (bl1)), (h0, .inr (2, [.ref r0, .ref t0])), (r0, aI E 176 (f1)), (t0, aI E 16 (tn1))] ∧ L = L8 ∧ F = F8 ∧ (True)) := by
  refine K_start (by decide) rfl rfl (Nat.le_of_ble_eq_true rfl) (fun g A Q hgl C r => ?_)
  subst hgl
  show G g muX4_check E A 0 0 Q [(xx, .inr (6, [.ref ka, .int (nI (nk)), .ref sa, .long (tr), .ref ma, .int (nI (ml)), .ref oa, .int (nI (on)), .ref ba, .ref h0, .ref c0])), (ka, aK E 16 (kr)), (ba, aI E 16 (bl)), (h0, .inr (2, [.ref r0, .ref t0])), (r0, aI E 176 (f)), (t0, aI E 16 (tn))] L F 0 [(0, .ref xx), (1, .int (k))] []
  refine g_aload_n C dX4_check_0 rfl 0 rfl ?_
  refine g_iload_n C dX4_check_1 rfl 1 rfl ?_
  refine g_callV (v := muX4_findKey) (cx := [(xx, .inr (6, [.ref ka, .int (nI (nk)), .ref sa, .long (tr), .ref ma, .int (nI (ml)), .ref oa, .int (nI (on)), .ref ba, .ref h0, .ref c0])), (ka, aK E 16 (kr))]) C (k_X4_findKey (gl g) E xx ka sa ma oa ba h0 c0 nk ml on tr kr k L F hnk) [0, 1] rfl (by decide) 0 rfl rfl gi_X4_55 hd_X4_findKey ⟨Nat.le_of_ble_eq_true rfl, Nat.le_of_ble_eq_true rfl⟩ rfl rfl (Nat.le_of_ble_eq_true rfl) ⟨Nat.le_of_ble_eq_true rfl, Nat.le_of_ble_eq_true rfl⟩ dX4_check_2 (fun r9 cx9 L9 F9 hp9 hf9 hN9 => ?_)
  obtain ⟨rfl, rfl, rfl, rfl, -⟩ := hp9
  show G g muX4_check E A 0 0 Q [(xx, .inr (6, [.ref ka, .int (nI (nk)), .ref sa, .long (tr), .ref ma, .int (nI (ml)), .ref oa, .int (nI (on)), .ref ba, .ref h0, .ref c0])), (ka, aK E 16 (kr)), (ba, aI E 16 (bl)), (h0, .inr (2, [.ref r0, .ref t0])), (r0, aI E 176 (f)), (t0, aI E 16 (tn))] L F 5 [(0, .ref xx), (1, .int (k))] [va_rf ((kf nk k).bind kr)]
  rcases hkf : kf nk k with _ | i
  · skip
    show G g muX4_check E A 0 0 Q [(xx, .inr (6, [.ref ka, .int (nI (nk)), .ref sa, .long (tr), .ref ma, .int (nI (ml)), .ref oa, .int (nI (on)), .ref ba, .ref h0, .ref c0])), (ka, aK E 16 (kr)), (ba, aI E 16 (bl)), (h0, .inr (2, [.ref r0, .ref t0])), (r0, aI E 176 (f)), (t0, aI E 16 (tn))] L F 5 [(0, .ref xx), (1, .int (k))] [.null]
    refine g_astore_nN (lv' := [(2, .null), (0, .ref xx), (1, .int (k))]) C dX4_check_5 rfl (by decide) rfl ?_
    refine g_aload_nN C dX4_check_6 rfl 0 rfl ?_
    refine g_ifnonnullN C dX4_check_7 ?_
    refine g_iconst (v := nI (0)) C dX4_check_10 (by decide) ?_
    refine g_asi (show (nI (0)) = (ckS nk ko k) from (by unfold ckS; rw [hkf])) ?_
    exact g_iret C r rfl ⟨f, tn, bl, rfl, rfl, rfl, rfl, trivial⟩ rfl nN dX4_check_11
  · skip
    obtain ⟨hi_a, hke_a⟩ := kf_some (by omega) hkf
    obtain ⟨a, o, hkr_a, hkL_a, hkF_a, hoL_a, hoF_a, hkn_a, hne_a, hset⟩ := hPS.key hi_a
    rw [show Option.bind (some i) kr = some a from hkr_a]
    show G g muX4_check E A 0 0 Q [(xx, .inr (6, [.ref ka, .int (nI (nk)), .ref sa, .long (tr), .ref ma, .int (nI (ml)), .ref oa, .int (nI (on)), .ref ba, .ref h0, .ref c0])), (ka, aK E 16 (kr)), (ba, aI E 16 (bl)), (h0, .inr (2, [.ref r0, .ref t0])), (r0, aI E 176 (f)), (t0, aI E 16 (tn))] L F 5 [(0, .ref xx), (1, .int (k))] [.ref a]
    refine g_astore_n (lv' := [(2, .ref a), (0, .ref xx), (1, .int (k))]) C dX4_check_5 rfl (by decide) rfl ?_
    refine g_aload_n C dX4_check_6 rfl 0 rfl ?_
    refine g_ifnonnull (tgt := 12) C dX4_check_7 (by decide) ?_
    refine g_aload_n C dX4_check_12 rfl 1 rfl ?_
    refine g_getX C 0 rfl rfl inX4 8 (by decide) m_90 rfl dX4_check_13 ?_
    refine g_iconst (v := nI (0)) C dX4_check_16 (by decide) ?_
    refine g_callS (v := muJ7_fill_53178) (cx := [(ba, aI E 16 (bl))]) C (k_J7_fill_53178 (gl g) E ba 16 bl (nI 0) L F (by decide)) [2] rfl (by decide) gi_X4_134 hd_J7_fill_53178.2 ⟨Nat.le_of_ble_eq_true rfl, Nat.le_of_ble_eq_true rfl⟩ rfl rfl (Nat.le_of_ble_eq_true rfl) ⟨Nat.le_of_ble_eq_true rfl, Nat.le_of_ble_eq_true rfl⟩ dX4_check_17 (fun r9 cx9 L9 F9 hp9 hf9 hN9 => ?_)
    obtain ⟨rfl, rfl, rfl, rfl, -⟩ := hp9
    show G g muX4_check E A 0 0 Q [(xx, .inr (6, [.ref ka, .int (nI (nk)), .ref sa, .long (tr), .ref ma, .int (nI (ml)), .ref oa, .int (nI (on)), .ref ba, .ref h0, .ref c0])), (ka, aK E 16 (kr)), (ba, aI E 16 (fun _ => (nI 0))), (h0, .inr (2, [.ref r0, .ref t0])), (r0, aI E 176 (f)), (t0, aI E 16 (tn))] L F 20 [(2, .ref a), (0, .ref xx), (1, .int (k))] []
    refine g_aload_n C dX4_check_20 rfl 1 rfl ?_
    refine g_getX C 0 rfl rfl inX4 9 (by decide) m_91 rfl dX4_check_21 ?_
    refine g_aload_n C dX4_check_24 rfl 0 rfl ?_
    refine g_callV (v := muX0_useKey) (cx := [(h0, .inr (2, [.ref r0, .ref t0])), (r0, aI E 176 (f))]) C (k_X0_useKey (gl g) E h0 r0 t0 a o f (ko i) (nI (kn i)) (kc i) L F hkL_a hkF_a hoL_a hoF_a) [3, 4] rfl (by decide) 3 rfl rfl gi_X4_139 hd_X0_useKey ⟨Nat.le_of_ble_eq_true rfl, Nat.le_of_ble_eq_true rfl⟩ rfl rfl (Nat.le_of_ble_eq_true rfl) ⟨Nat.le_of_ble_eq_true rfl, Nat.le_of_ble_eq_true rfl⟩ dX4_check_25 (fun r9 cx9 L9 F9 hp9 hf9 hN9 => ?_)
    obtain ⟨rfl, rfl, rfl, rfl, -⟩ := hp9
    show G g muX4_check E A 0 0 Q [(xx, .inr (6, [.ref ka, .int (nI (nk)), .ref sa, .long (tr), .ref ma, .int (nI (ml)), .ref oa, .int (nI (on)), .ref ba, .ref h0, .ref c0])), (ka, aK E 16 (kr)), (ba, aI E 16 (fun _ => (nI 0))), (h0, .inr (2, [.ref r0, .ref t0])), (r0, aI E 176 (rk (ko i))), (t0, aI E 16 (tn))] L F 28 [(2, .ref a), (0, .ref xx), (1, .int (k))] []
    refine g_aload_n C dX4_check_28 rfl 1 rfl ?_
    refine g_getX C 0 rfl rfl inX4 9 (by decide) m_91 rfl dX4_check_29 ?_
    refine g_aload_n C dX4_check_32 rfl 1 rfl ?_
    refine g_getX C 0 rfl rfl inX4 8 (by decide) m_90 rfl dX4_check_33 ?_
    refine g_callV (v := muX0_apply) (cx := [(h0, .inr (2, [.ref r0, .ref t0])), (r0, aI E 176 (rk (ko i))), (t0, aI E 16 (tn)), (ba, aI E 16 (fun _ => (nI 0)))]) C (k_X0_apply (gl g) E h0 ba r0 t0 (ko i) (fun _ => nI 0) tn L F ) [3, 4, 5, 2] rfl (by decide) 3 rfl rfl gi_X4_142 hd_X0_apply ⟨Nat.le_of_ble_eq_true rfl, Nat.le_of_ble_eq_true rfl⟩ rfl rfl (Nat.le_of_ble_eq_true rfl) ⟨Nat.le_of_ble_eq_true rfl, Nat.le_of_ble_eq_true rfl⟩ dX4_check_36 (fun r9 cx9 L9 F9 hp9 hf9 hN9 => ?_)
    obtain ⟨tn2, rfl, rfl, rfl, rfl, -⟩ := hp9
    show G g muX4_check E A 0 0 Q [(xx, .inr (6, [.ref ka, .int (nI (nk)), .ref sa, .long (tr), .ref ma, .int (nI (ml)), .ref oa, .int (nI (on)), .ref ba, .ref h0, .ref c0])), (ka, aK E 16 (kr)), (ba, aI E 16 (ENC (ko i) (fun _ => nI 0))), (h0, .inr (2, [.ref r0, .ref t0])), (r0, aI E 176 (rk (ko i))), (t0, aI E 16 (tn2))] L F 39 [(2, .ref a), (0, .ref xx), (1, .int (k))] []
    refine g_aload_n C dX4_check_39 rfl 1 rfl ?_
    refine g_getX C 0 rfl rfl inX4 8 (by decide) m_90 rfl dX4_check_40 ?_
    refine g_iconst (v := nI (0)) C dX4_check_43 (by decide) ?_
    refine g_iald C 2 rfl (by omega) (by decide) dX4_check_44 ?_
    refine g_bipush (v := nI (24)) C dX4_check_45 (by decide) ?_
    refine g_ishl C dX4_check_47 ?_
    refine g_aload_n C dX4_check_48 rfl 1 rfl ?_
    refine g_getX C 0 rfl rfl inX4 8 (by decide) m_90 rfl dX4_check_49 ?_
    refine g_iconst (v := nI (1)) C dX4_check_52 (by decide) ?_
    refine g_iald C 2 rfl (by omega) (by decide) dX4_check_53 ?_
    refine g_bipush (v := nI (16)) C dX4_check_54 (by decide) ?_
    refine g_ishl C dX4_check_56 ?_
    refine g_ior C dX4_check_57 ?_
    refine g_aload_n C dX4_check_58 rfl 1 rfl ?_
    refine g_getX C 0 rfl rfl inX4 8 (by decide) m_90 rfl dX4_check_59 ?_
    refine g_iconst (v := nI (2)) C dX4_check_62 (by decide) ?_
    refine g_iald C 2 rfl (by omega) (by decide) dX4_check_63 ?_
    refine g_bipush (v := nI (8)) C dX4_check_64 (by decide) ?_
    refine g_ishl C dX4_check_66 ?_
    refine g_ior C dX4_check_67 ?_
    refine g_aload_n C dX4_check_68 rfl 1 rfl ?_
    refine g_getX C 0 rfl rfl inX4 8 (by decide) m_90 rfl dX4_check_69 ?_
    refine g_iconst (v := nI (3)) C dX4_check_72 (by decide) ?_
    refine g_iald C 2 rfl (by omega) (by decide) dX4_check_73 ?_
    refine g_ior C dX4_check_74 ?_
    refine g_asi (show ((((((ENC (ko i) (fun _ => nI 0)) 0) <<< ((nI (24)) &&& 31)) ||| (((ENC (ko i) (fun _ => nI 0)) 1) <<< ((nI (16)) &&& 31))) ||| (((ENC (ko i) (fun _ => nI 0)) 2) <<< ((nI (8)) &&& 31))) ||| ((ENC (ko i) (fun _ => nI 0)) 3)) = (ckS nk ko k) from (by unfold ckS; rw [hkf]; rfl)) ?_
    exact g_iret C r rfl ⟨rk (ko i), tn2, ENC (ko i) (fun _ => nI 0), rfl, rfl, rfl, rfl, trivial⟩ rfl nN dX4_check_75
abbrev muX4_encipher : Mu := (cX4_encipher, 4, RX4, (some .int), "encipher", 3, 0, 0, 69)
theorem hd_X4_encipher : yX4_encipher.cls = RX4 ∧ yX4_encipher.cls ≠ "java/lang/invoke/MethodHandle" ∧ yX4_encipher.cls ≠ "java/lang/invoke/VarHandle" ∧ (parseMethodDescriptor yX4_encipher.desc).map (fun d => d.parameters.length) = some 1 := by decide +kernel
set_option maxHeartbeats 4000000 in
set_option maxRecDepth 100000 in
theorem k_X4_encipher (l : Launch) (E : Ev) (xx ka sa ma oa ba h0 c0 nk ml on : Nat) (tr : Int64) (kr sr : Nat → Option Nat) (ko : Nat → Nat → Int32) (kn : Nat → Nat) (kc sc : Nat → Int64) (sb : Nat → Nat) (sl : Nat → Int32) (r0 t0 : Nat) (f tn bl msg ov : Nat → Int32) (k : Int32) (L : List Nat) (F : Nat → va_E) (hnk : nk ≤ 16) (hml : ml ≤ 300) (hPS : PS E L F kr sr nk ko kn kc sc sb sl) : KC l E yX4_encipher muX4_encipher [.ref xx, .int (k)] [(xx, .inr (6, [.ref ka, .int (nI (nk)), .ref sa, .long (tr), .ref ma, .int (nI (ml)), .ref oa, .int (nI (on)), .ref ba, .ref h0, .ref c0])), (ka, aK E 16 (kr)), (ma, aI E 300 (msg)), (oa, aI E 16 (ov)), (ba, aI E 16 (bl)), (h0, .inr (2, [.ref r0, .ref t0])), (r0, aI E 176 (f)), (t0, aI E 16 (tn))] L F (fun r8 cx8 L8 F8 => ∃ (r1 : Int32) (ml1 on1 : Nat) (ov1 f1 tn1 bl1 : Nat → Int32), r8 = some (.int (r1)) ∧ cx8 = [(xx, .inr (6, [.ref ka, .int (nI (nk)), .ref sa, .long (tr), .ref ma, .int (nI (ml1)), .ref oa, .int (nI (on1)), .ref ba, .ref h0, .ref c0])), (ka, aK E 16 (kr)), (ma, aI E 300 (msg)), (oa, aI E 16 (ov1)), (ba, aI E 16 (bl1)), (h0, .inr (2, [.ref r0, .ref t0])), (r0, aI E 176 (f1)), (t0, aI E 16 (tn1))] ∧ L = L8 ∧ F = F8 ∧ ((r1, ml1, on1, ov1) = ecS nk ko ml msg on ov k)) := by
  refine K_start (by decide) rfl rfl (Nat.le_of_ble_eq_true rfl) (fun g A Q hgl C r => ?_)
  subst hgl
  show G g muX4_encipher E A 0 0 Q [(xx, .inr (6, [.ref ka, .int (nI (nk)), .ref sa, .long (tr), .ref ma, .int (nI (ml)), .ref oa, .int (nI (on)), .ref ba, .ref h0, .ref c0])), (ka, aK E 16 (kr)), (ma, aI E 300 (msg)), (oa, aI E 16 (ov)), (ba, aI E 16 (bl)), (h0, .inr (2, [.ref r0, .ref t0])), (r0, aI E 176 (f)), (t0, aI E 16 (tn))] L F 0 [(0, .ref xx), (1, .int (k))] []
  refine g_aload_n C dX4_encipher_0 rfl 0 rfl ?_
  refine g_iload_n C dX4_encipher_1 rfl 1 rfl ?_
  refine g_callV (v := muX4_findKey) (cx := [(xx, .inr (6, [.ref ka, .int (nI (nk)), .ref sa, .long (tr), .ref ma, .int (nI (ml)), .ref oa, .int (nI (on)), .ref ba, .ref h0, .ref c0])), (ka, aK E 16 (kr))]) C (k_X4_findKey (gl g) E xx ka sa ma oa ba h0 c0 nk ml on tr kr k L F hnk) [0, 1] rfl (by decide) 0 rfl rfl gi_X4_55 hd_X4_findKey ⟨Nat.le_of_ble_eq_true rfl, Nat.le_of_ble_eq_true rfl⟩ rfl rfl (Nat.le_of_ble_eq_true rfl) ⟨Nat.le_of_ble_eq_true rfl, Nat.le_of_ble_eq_true rfl⟩ dX4_encipher_2 (fun r9 cx9 L9 F9 hp9 hf9 hN9 => ?_)
  obtain ⟨rfl, rfl, rfl, rfl, -⟩ := hp9
  show G g muX4_encipher E A 0 0 Q [(xx, .inr (6, [.ref ka, .int (nI (nk)), .ref sa, .long (tr), .ref ma, .int (nI (ml)), .ref oa, .int (nI (on)), .ref ba, .ref h0, .ref c0])), (ka, aK E 16 (kr)), (ma, aI E 300 (msg)), (oa, aI E 16 (ov)), (ba, aI E 16 (bl)), (h0, .inr (2, [.ref r0, .ref t0])), (r0, aI E 176 (f)), (t0, aI E 16 (tn))] L F 5 [(0, .ref xx), (1, .int (k))] [va_rf ((kf nk k).bind kr)]
  rcases hkf : kf nk k with _ | i
  · skip
    show G g muX4_encipher E A 0 0 Q [(xx, .inr (6, [.ref ka, .int (nI (nk)), .ref sa, .long (tr), .ref ma, .int (nI (ml)), .ref oa, .int (nI (on)), .ref ba, .ref h0, .ref c0])), (ka, aK E 16 (kr)), (ma, aI E 300 (msg)), (oa, aI E 16 (ov)), (ba, aI E 16 (bl)), (h0, .inr (2, [.ref r0, .ref t0])), (r0, aI E 176 (f)), (t0, aI E 16 (tn))] L F 5 [(0, .ref xx), (1, .int (k))] [.null]
    refine g_astore_nN (lv' := [(2, .null), (0, .ref xx), (1, .int (k))]) C dX4_encipher_5 rfl (by decide) rfl ?_
    refine g_aload_nN C dX4_encipher_6 rfl 0 rfl ?_
    refine g_ifnonnullN C dX4_encipher_7 ?_
    refine g_iconst (v := (-1 : Int32)) C dX4_encipher_10 (by decide) ?_
    exact g_iret C r rfl ⟨-1, ml, on, ov, f, tn, bl, rfl, rfl, rfl, rfl, by unfold ecS; rw [hkf]⟩ rfl nN dX4_encipher_11
  · skip
    obtain ⟨hi_a, hke_a⟩ := kf_some (by omega) hkf
    obtain ⟨a, o, hkr_a, hkL_a, hkF_a, hoL_a, hoF_a, hkn_a, hne_a, hset⟩ := hPS.key hi_a
    rw [show Option.bind (some i) kr = some a from hkr_a]
    show G g muX4_encipher E A 0 0 Q [(xx, .inr (6, [.ref ka, .int (nI (nk)), .ref sa, .long (tr), .ref ma, .int (nI (ml)), .ref oa, .int (nI (on)), .ref ba, .ref h0, .ref c0])), (ka, aK E 16 (kr)), (ma, aI E 300 (msg)), (oa, aI E 16 (ov)), (ba, aI E 16 (bl)), (h0, .inr (2, [.ref r0, .ref t0])), (r0, aI E 176 (f)), (t0, aI E 16 (tn))] L F 5 [(0, .ref xx), (1, .int (k))] [.ref a]
    refine g_astore_n (lv' := [(2, .ref a), (0, .ref xx), (1, .int (k))]) C dX4_encipher_5 rfl (by decide) rfl ?_
    refine g_aload_n C dX4_encipher_6 rfl 0 rfl ?_
    refine g_ifnonnull (tgt := 12) C dX4_encipher_7 (by decide) ?_
    refine g_aload_n C dX4_encipher_12 rfl 1 rfl ?_
    refine g_getX C 0 rfl rfl inX4 5 (by decide) m_87 rfl dX4_encipher_13 ?_
    refine g_bipush (v := nI (16)) C dX4_encipher_16 (by decide) ?_
    refine g_nicmp_eq (tgt := 24) C dX4_encipher_18 (by decide) (by omega) (by omega) (fun c18 => ?_) (fun c18 => ?_)
    · skip
      refine g_iconst (v := nI (0)) C dX4_encipher_24 (by decide) ?_
      refine g_istore_n (lv' := [(3, .int (nI (0))), (2, .ref a), (0, .ref xx), (1, .int (k))]) C dX4_encipher_25 rfl (by decide) rfl ?_
      have lp26 : ∀ (n26 : Nat) (n : Nat) (g1 : Nat → Int32), (n ≤ 16) → (pfx g1 msg n) → 17 ≤ n + n26 → G g muX4_encipher E A 0 0 Q [(xx, .inr (6, [.ref ka, .int (nI (nk)), .ref sa, .long (tr), .ref ma, .int (nI (ml)), .ref oa, .int (nI (on)), .ref ba, .ref h0, .ref c0])), (ka, aK E 16 (kr)), (ma, aI E 300 (msg)), (oa, aI E 16 (ov)), (ba, aI E 16 (g1)), (h0, .inr (2, [.ref r0, .ref t0])), (r0, aI E 176 (f)), (t0, aI E 16 (tn))] L F 26 [(0, .ref xx), (1, .int (k)), (2, .ref a), (3, .int (nI (n)))] [] := by
        intro n26
        induction n26 with
        | zero => intro n g1 hn hf hfu26; exact absurd hfu26 (by omega)
        | succ n26 ih26 =>
          intro n g1 hn hf hfu26
          refine g_iload_n C dX4_encipher_26 rfl 3 rfl ?_
          refine g_bipush (v := nI (16)) C dX4_encipher_27 (by decide) ?_
          refine g_nicmp_ge (tgt := 50) C dX4_encipher_29 (by decide) (by omega) (by omega) (fun c29 => ?_) (fun c29 => ?_)
          · skip
            refine g_cgI (f' := msg) (X' := [(xx, .inr (6, [.ref ka, .int (nI (nk)), .ref sa, .long (tr), .ref ma, .int (nI (ml)), .ref oa, .int (nI (on)), .ref ba, .ref h0, .ref c0])), (ka, aK E 16 (kr)), (ma, aI E 300 (msg)), (oa, aI E 16 (ov)), (ba, aI E 16 (msg)), (h0, .inr (2, [.ref r0, .ref t0])), (r0, aI E 176 (f)), (t0, aI E 16 (tn))]) 4 rfl (fun j hj => hf j (by omega)) rfl ?_
            refine g_aload_n C dX4_encipher_50 rfl 0 rfl ?_
            refine g_getX C 0 rfl rfl inX4 9 (by decide) m_91 rfl dX4_encipher_51 ?_
            refine g_aload_n C dX4_encipher_54 rfl 2 rfl ?_
            refine g_callV (v := muX0_useKey) (cx := [(h0, .inr (2, [.ref r0, .ref t0])), (r0, aI E 176 (f))]) C (k_X0_useKey (gl g) E h0 r0 t0 a o f (ko i) (nI (kn i)) (kc i) L F hkL_a hkF_a hoL_a hoF_a) [5, 6] rfl (by decide) 5 rfl rfl gi_X4_139 hd_X0_useKey ⟨Nat.le_of_ble_eq_true rfl, Nat.le_of_ble_eq_true rfl⟩ rfl rfl (Nat.le_of_ble_eq_true rfl) ⟨Nat.le_of_ble_eq_true rfl, Nat.le_of_ble_eq_true rfl⟩ dX4_encipher_55 (fun r9 cx9 L9 F9 hp9 hf9 hN9 => ?_)
            obtain ⟨rfl, rfl, rfl, rfl, -⟩ := hp9
            show G g muX4_encipher E A 0 0 Q [(xx, .inr (6, [.ref ka, .int (nI (nk)), .ref sa, .long (tr), .ref ma, .int (nI (ml)), .ref oa, .int (nI (on)), .ref ba, .ref h0, .ref c0])), (ka, aK E 16 (kr)), (ma, aI E 300 (msg)), (oa, aI E 16 (ov)), (ba, aI E 16 (msg)), (h0, .inr (2, [.ref r0, .ref t0])), (r0, aI E 176 (rk (ko i))), (t0, aI E 16 (tn))] L F 58 [(0, .ref xx), (1, .int (k)), (2, .ref a), (3, .int (nI (n)))] []
            refine g_aload_n C dX4_encipher_58 rfl 0 rfl ?_
            refine g_getX C 0 rfl rfl inX4 9 (by decide) m_91 rfl dX4_encipher_59 ?_
            refine g_aload_n C dX4_encipher_62 rfl 0 rfl ?_
            refine g_getX C 0 rfl rfl inX4 8 (by decide) m_90 rfl dX4_encipher_63 ?_
            refine g_callV (v := muX0_apply) (cx := [(h0, .inr (2, [.ref r0, .ref t0])), (r0, aI E 176 (rk (ko i))), (t0, aI E 16 (tn)), (ba, aI E 16 (msg))]) C (k_X0_apply (gl g) E h0 ba r0 t0 (ko i) msg tn L F ) [5, 6, 7, 4] rfl (by decide) 5 rfl rfl gi_X4_142 hd_X0_apply ⟨Nat.le_of_ble_eq_true rfl, Nat.le_of_ble_eq_true rfl⟩ rfl rfl (Nat.le_of_ble_eq_true rfl) ⟨Nat.le_of_ble_eq_true rfl, Nat.le_of_ble_eq_true rfl⟩ dX4_encipher_66 (fun r9 cx9 L9 F9 hp9 hf9 hN9 => ?_)
            obtain ⟨tn2, rfl, rfl, rfl, rfl, -⟩ := hp9
            show G g muX4_encipher E A 0 0 Q [(xx, .inr (6, [.ref ka, .int (nI (nk)), .ref sa, .long (tr), .ref ma, .int (nI (ml)), .ref oa, .int (nI (on)), .ref ba, .ref h0, .ref c0])), (ka, aK E 16 (kr)), (ma, aI E 300 (msg)), (oa, aI E 16 (ov)), (ba, aI E 16 (ENC (ko i) msg)), (h0, .inr (2, [.ref r0, .ref t0])), (r0, aI E 176 (rk (ko i))), (t0, aI E 16 (tn2))] L F 69 [(0, .ref xx), (1, .int (k)), (2, .ref a), (3, .int (nI (n)))] []
            refine g_aload_n C dX4_encipher_69 rfl 0 rfl ?_
            refine g_callV (v := muX4_emptyMessage) (cx := [(xx, .inr (6, [.ref ka, .int (nI (nk)), .ref sa, .long (tr), .ref ma, .int (nI (ml)), .ref oa, .int (nI (on)), .ref ba, .ref h0, .ref c0]))]) C (k_X4_emptyMessage (gl g) E xx ka sa ma oa ba h0 c0 nk ml on tr L F ) [0] rfl (by decide) 0 rfl rfl gi_X4_76 hd_X4_emptyMessage ⟨Nat.le_of_ble_eq_true rfl, Nat.le_of_ble_eq_true rfl⟩ rfl rfl (Nat.le_of_ble_eq_true rfl) ⟨Nat.le_of_ble_eq_true rfl, Nat.le_of_ble_eq_true rfl⟩ dX4_encipher_70 (fun r9 cx9 L9 F9 hp9 hf9 hN9 => ?_)
            obtain ⟨rfl, rfl, rfl, rfl, -⟩ := hp9
            show G g muX4_encipher E A 0 0 Q [(xx, .inr (6, [.ref ka, .int (nI (nk)), .ref sa, .long (tr), .ref ma, .int (nI (0)), .ref oa, .int (nI (on)), .ref ba, .ref h0, .ref c0])), (ka, aK E 16 (kr)), (ma, aI E 300 (msg)), (oa, aI E 16 (ov)), (ba, aI E 16 (ENC (ko i) msg)), (h0, .inr (2, [.ref r0, .ref t0])), (r0, aI E 176 (rk (ko i))), (t0, aI E 16 (tn2))] L F 73 [(0, .ref xx), (1, .int (k)), (2, .ref a), (3, .int (nI (n)))] []
            refine g_aload_n C dX4_encipher_73 rfl 0 rfl ?_
            refine g_aload_n C dX4_encipher_74 rfl 0 rfl ?_
            refine g_getX C 0 rfl rfl inX4 8 (by decide) m_90 rfl dX4_encipher_75 ?_
            refine g_sipush (v := nI (128)) C dX4_encipher_78 (by decide) ?_
            refine g_callV (v := muX4_answerBits) (cx := [(xx, .inr (6, [.ref ka, .int (nI (nk)), .ref sa, .long (tr), .ref ma, .int (nI (0)), .ref oa, .int (nI (on)), .ref ba, .ref h0, .ref c0])), (oa, aI E 16 (ov)), (ba, aI E 16 (ENC (ko i) msg))]) C (k_X4_answerBits (gl g) E xx ka sa ma oa ba h0 c0 nk 0 on tr ba (ENC (ko i) msg) ov 128 L F (by decide)) [0, 3, 4] rfl (by decide) 0 rfl rfl gi_X4_82 hd_X4_answerBits ⟨Nat.le_of_ble_eq_true rfl, Nat.le_of_ble_eq_true rfl⟩ rfl rfl (Nat.le_of_ble_eq_true rfl) ⟨Nat.le_of_ble_eq_true rfl, Nat.le_of_ble_eq_true rfl⟩ dX4_encipher_81 (fun r9 cx9 L9 F9 hp9 hf9 hN9 => ?_)
            obtain ⟨rfl, rfl, rfl, rfl, -⟩ := hp9
            show G g muX4_encipher E A 0 0 Q [(xx, .inr (6, [.ref ka, .int (nI (nk)), .ref sa, .long (tr), .ref ma, .int (nI (0)), .ref oa, .int (nI ((128 + 7) / 8)), .ref ba, .ref h0, .ref c0])), (ka, aK E 16 (kr)), (ma, aI E 300 (msg)), (oa, aI E 16 (ansF (ENC (ko i) msg) 128)), (ba, aI E 16 (ENC (ko i) msg)), (h0, .inr (2, [.ref r0, .ref t0])), (r0, aI E 176 (rk (ko i))), (t0, aI E 16 (tn2))] L F 84 [(0, .ref xx), (1, .int (k)), (2, .ref a), (3, .int (nI (n)))] []
            refine g_aload_n C dX4_encipher_84 rfl 0 rfl ?_
            refine g_getX C 0 rfl rfl inX4 7 (by decide) m_89 rfl dX4_encipher_85 ?_
            exact g_iret C r rfl ⟨nI 16, 0, 16, ansF (ENC (ko i) msg) 128, rk (ko i), tn2, ENC (ko i) msg, rfl, rfl, rfl, rfl, by unfold ecS; rw [hkf]; simp only [if_pos c18]⟩ rfl nN dX4_encipher_88
          · skip
            refine g_aload_n C dX4_encipher_32 rfl 0 rfl ?_
            refine g_getX C 0 rfl rfl inX4 8 (by decide) m_90 rfl dX4_encipher_33 ?_
            refine g_iload_n C dX4_encipher_36 rfl 3 rfl ?_
            refine g_aload_n C dX4_encipher_37 rfl 0 rfl ?_
            refine g_getX C 0 rfl rfl inX4 4 (by decide) m_86 rfl dX4_encipher_38 ?_
            refine g_iload_n C dX4_encipher_41 rfl 3 rfl ?_
            refine g_iald C 2 rfl (by omega) (by decide) dX4_encipher_42 ?_
            refine g_iast (X' := [(xx, .inr (6, [.ref ka, .int (nI (nk)), .ref sa, .long (tr), .ref ma, .int (nI (ml)), .ref oa, .int (nI (on)), .ref ba, .ref h0, .ref c0])), (ka, aK E 16 (kr)), (ma, aI E 300 (msg)), (oa, aI E 16 (ov)), (ba, aI E 16 (upd g1 n (msg n))), (h0, .inr (2, [.ref r0, .ref t0])), (r0, aI E 176 (f)), (t0, aI E 16 (tn))]) C 4 rfl (by omega) (by decide) rfl dX4_encipher_43 ?_
            refine g_iinc (v := nI (n + 1)) (lv' := [(3, .int (nI (n + 1))), (0, .ref xx), (1, .int (k)), (2, .ref a)]) C dX4_encipher_44 3 rfl (nI_inc _ 1) (by decide) rfl ?_
            refine g_goto (tgt := 26) C dX4_encipher_47 (by decide) ?_
            refine g_lv [1, 2, 3, 0] rfl ?_
            exact ih26 (n + 1) (upd g1 n (msg n)) (by omega) (pfS hf rfl) (by omega)
      refine g_lv [2, 3, 1, 0] rfl ?_
      exact lp26 17 0 bl (Nat.zero_le _) pf0 (by omega)
    · skip
      refine g_bipush (v := (-3 : Int32)) C dX4_encipher_21 (by decide) ?_
      exact g_iret C r rfl ⟨-3, ml, on, ov, f, tn, bl, rfl, rfl, rfl, rfl, by unfold ecS; rw [hkf]; simp only [if_neg c18]⟩ rfl nN dX4_encipher_23
abbrev muX4_fresh : Mu := (cX4_fresh, 5, RX4, (some .int), "fresh", 1, 0, 0, 21)
theorem hd_X4_fresh : yX4_fresh.cls = RX4 ∧ yX4_fresh.cls ≠ "java/lang/invoke/MethodHandle" ∧ yX4_fresh.cls ≠ "java/lang/invoke/VarHandle" ∧ (parseMethodDescriptor yX4_fresh.desc).map (fun d => d.parameters.length) = some 2 := by decide +kernel
set_option maxHeartbeats 4000000 in
set_option maxRecDepth 100000 in
theorem k_X4_fresh (l : Launch) (E : Ev) (xx ka sa ma oa ba h0 c0 nk ml on : Nat) (tr : Int64) (kr sr : Nat → Option Nat) (ko : Nat → Nat → Int32) (kn : Nat → Nat) (kc sc : Nat → Int64) (sb : Nat → Nat) (sl : Nat → Int32) (id : Int32) (c : Int64) (L : List Nat) (F : Nat → va_E) (hPS : PS E L F kr sr nk ko kn kc sc sb sl) : KC l E yX4_fresh muX4_fresh [.ref xx, .int (id), .long (c)] [(xx, .inr (6, [.ref ka, .int (nI (nk)), .ref sa, .long (tr), .ref ma, .int (nI (ml)), .ref oa, .int (nI (on)), .ref ba, .ref h0, .ref c0])), (sa, aS E 64 (sr))] L F (fun r8 cx8 L8 F8 => ∃ (r1 : Int32) (F1 : Nat → va_E) (sc1 : Nat → Int64), r8 = some (.int (r1)) ∧ cx8 = [(xx, .inr (6, [.ref ka, .int (nI (nk)), .ref sa, .long (tr), .ref ma, .int (nI (ml)), .ref oa, .int (nI (on)), .ref ba, .ref h0, .ref c0])), (sa, aS E 64 (sr))] ∧ L = L8 ∧ F1 = F8 ∧ (PS E L F1 kr sr nk ko kn kc sc1 sb sl ∧ (r1, sc1) = frS sc id c)) := by
  refine K_start (by decide) rfl rfl (Nat.le_of_ble_eq_true rfl) (fun g A Q hgl C r => ?_)
  subst hgl
  show G g muX4_fresh E A 0 0 Q [(xx, .inr (6, [.ref ka, .int (nI (nk)), .ref sa, .long (tr), .ref ma, .int (nI (ml)), .ref oa, .int (nI (on)), .ref ba, .ref h0, .ref c0])), (sa, aS E 64 (sr))] L F 0 [(0, .ref xx), (1, .int (id)), (2, .long (c))] []
  refine g_aload_n C dX4_fresh_0 rfl 0 rfl ?_
  refine g_iload_n C dX4_fresh_1 rfl 1 rfl ?_
  refine g_callV (v := muX4_findSender) (cx := [(xx, .inr (6, [.ref ka, .int (nI (nk)), .ref sa, .long (tr), .ref ma, .int (nI (ml)), .ref oa, .int (nI (on)), .ref ba, .ref h0, .ref c0])), (sa, aS E 64 (sr))]) C (k_X4_findSender (gl g) E xx ka sa ma oa ba h0 c0 nk ml on tr sr id L F ) [0, 1] rfl (by decide) 0 rfl rfl gi_X4_95 hd_X4_findSender ⟨Nat.le_of_ble_eq_true rfl, Nat.le_of_ble_eq_true rfl⟩ rfl rfl (Nat.le_of_ble_eq_true rfl) ⟨Nat.le_of_ble_eq_true rfl, Nat.le_of_ble_eq_true rfl⟩ dX4_fresh_2 (fun r9 cx9 L9 F9 hp9 hf9 hN9 => ?_)
  obtain ⟨rfl, rfl, rfl, rfl, -⟩ := hp9
  show G g muX4_fresh E A 0 0 Q [(xx, .inr (6, [.ref ka, .int (nI (nk)), .ref sa, .long (tr), .ref ma, .int (nI (ml)), .ref oa, .int (nI (on)), .ref ba, .ref h0, .ref c0])), (sa, aS E 64 (sr))] L F 5 [(0, .ref xx), (1, .int (id)), (2, .long (c))] [va_rf ((kf 64 id).bind sr)]
  rcases hsf : kf 64 id with _ | j
  · skip
    show G g muX4_fresh E A 0 0 Q [(xx, .inr (6, [.ref ka, .int (nI (nk)), .ref sa, .long (tr), .ref ma, .int (nI (ml)), .ref oa, .int (nI (on)), .ref ba, .ref h0, .ref c0])), (sa, aS E 64 (sr))] L F 5 [(0, .ref xx), (1, .int (id)), (2, .long (c))] [.null]
    refine g_astoreN (lv' := [(4, .null), (0, .ref xx), (1, .int (id)), (2, .long (c))]) C dX4_fresh_5 (by decide) rfl ?_
    refine g_aloadN C dX4_fresh_7 0 rfl ?_
    refine g_ifnonnullN C dX4_fresh_9 ?_
    refine g_iconst (v := (-1 : Int32)) C dX4_fresh_12 (by decide) ?_
    exact g_iret C r rfl ⟨-1, F, sc, rfl, rfl, rfl, rfl, hPS, by unfold frS; rw [hsf]⟩ rfl nN dX4_fresh_13
  · skip
    obtain ⟨hj_b9, hje_b9⟩ := kf_some (by omega) hsf
    obtain ⟨b9, hsr_b9, hsL_b9, hsF_b9, sset_b9⟩ := hPS.sender hj_b9
    rw [show Option.bind (some j) sr = some b9 from hsr_b9]
    show G g muX4_fresh E A 0 0 Q [(xx, .inr (6, [.ref ka, .int (nI (nk)), .ref sa, .long (tr), .ref ma, .int (nI (ml)), .ref oa, .int (nI (on)), .ref ba, .ref h0, .ref c0])), (sa, aS E 64 (sr))] L F 5 [(0, .ref xx), (1, .int (id)), (2, .long (c))] [.ref b9]
    refine g_astore (lv' := [(4, .ref b9), (0, .ref xx), (1, .int (id)), (2, .long (c))]) C dX4_fresh_5 (by decide) rfl ?_
    refine g_aload C dX4_fresh_7 0 rfl ?_
    refine g_ifnonnull (tgt := 14) C dX4_fresh_9 (by decide) ?_
    refine g_lload_n C dX4_fresh_14 rfl 3 rfl ?_
    refine g_lconst (v := 0) C dX4_fresh_15 (by decide) ?_
    refine g_lcmp C dX4_fresh_16 ?_
    refine g_if_lt (tgt := 28) C dX4_fresh_17 (by decide) (fun c17 => ?_) (fun c17 => ?_)
    · skip
      rw [lg_cmp_lt] at c17
      refine g_bipush (v := (-2 : Int32)) C dX4_fresh_28 (by decide) ?_
      exact g_iret C r rfl ⟨-2, F, sc, rfl, rfl, rfl, rfl, hPS, by unfold frS; rw [hsf]; simp only [if_pos c17]⟩ rfl nN dX4_fresh_30
    · skip
      rw [lg_cmp_lt] at c17
      refine g_lload_n C dX4_fresh_20 rfl 3 rfl ?_
      refine g_ldc2_w C m_235 dX4_fresh_21 ?_
      refine g_lcmp C dX4_fresh_24 ?_
      refine g_if_le (tgt := 31) C dX4_fresh_25 (by decide) (fun c25 => ?_) (fun c25 => ?_)
      · skip
        rw [lg_cmp_le] at c25
        refine g_lload_n C dX4_fresh_31 rfl 3 rfl ?_
        refine g_aload C dX4_fresh_32 0 rfl ?_
        refine g_getP C hsL_b9 hsF_b9 rfl inX3 1 (by decide) m_70 rfl dX4_fresh_34 ?_
        refine g_lcmp C dX4_fresh_37 ?_
        refine g_if_gt (tgt := 43) C dX4_fresh_38 (by decide) (fun c38 => ?_) (fun c38 => ?_)
        · skip
          rw [lg_cmp_gt] at c38
          refine g_aload C dX4_fresh_43 0 rfl ?_
          refine g_lload_n C dX4_fresh_45 rfl 3 rfl ?_
          refine g_putP (e' := .inr (5, [.int (nI (j + 1)), .long (c), .int (nI (sb j)), .int (sl j)])) C hsL_b9 hsF_b9 rfl inX3 tyX3 tyX3_ok nmX3 1 (by decide) m_70 rfl rfl rfl (Nat.le_of_ble_eq_true rfl) rfl dX4_fresh_46 ?_
          refine g_iconst (v := nI (1)) C dX4_fresh_49 (by decide) ?_
          exact g_iret C r rfl ⟨nI 1, va_up F b9 (.inr (5, [.int (nI (j + 1)), .long (c), .int (nI (sb j)), .int (sl j)])), va_up sc j c, rfl, rfl, rfl, rfl, ps_c (sset_b9 c (sb j) (sl j)), by unfold frS; rw [hsf]; simp only [if_neg c17, if_pos c25, if_pos c38]⟩ rfl nN dX4_fresh_50
        · skip
          rw [lg_cmp_gt] at c38
          refine g_iconst (v := nI (0)) C dX4_fresh_41 (by decide) ?_
          exact g_iret C r rfl ⟨nI 0, F, sc, rfl, rfl, rfl, rfl, hPS, by unfold frS; rw [hsf]; simp only [if_neg c17, if_pos c25, if_neg c38]⟩ rfl nN dX4_fresh_42
      · skip
        rw [lg_cmp_le] at c25
        refine g_bipush (v := (-2 : Int32)) C dX4_fresh_28 (by decide) ?_
        exact g_iret C r rfl ⟨-2, F, sc, rfl, rfl, rfl, rfl, hPS, by unfold frS; rw [hsf]; simp only [if_neg c17, if_neg c25]⟩ rfl nN dX4_fresh_30
abbrev muX4_may : Mu := (cX4_may, 5, RX4, (some .int), "may", 2, 0, 0, 40)
theorem hd_X4_may : yX4_may.cls = RX4 ∧ yX4_may.cls ≠ "java/lang/invoke/MethodHandle" ∧ yX4_may.cls ≠ "java/lang/invoke/VarHandle" ∧ (parseMethodDescriptor yX4_may.desc).map (fun d => d.parameters.length) = some 3 := by decide +kernel
set_option maxHeartbeats 4000000 in
set_option maxRecDepth 100000 in
theorem k_X4_may (l : Launch) (E : Ev) (xx ka sa ma oa ba h0 c0 nk ml on : Nat) (tr : Int64) (kr sr : Nat → Option Nat) (ko : Nat → Nat → Int32) (kn : Nat → Nat) (kc sc : Nat → Int64) (sb : Nat → Nat) (sl : Nat → Int32) (id k : Int32) (on9 : Bool) (L : List Nat) (F : Nat → va_E) (hnk : nk ≤ 16) (hPS : PS E L F kr sr nk ko kn kc sc sb sl) : KC l E yX4_may muX4_may [.ref xx, .int (id), .int (k), .int (b2 on9)] [(xx, .inr (6, [.ref ka, .int (nI (nk)), .ref sa, .long (tr), .ref ma, .int (nI (ml)), .ref oa, .int (nI (on)), .ref ba, .ref h0, .ref c0])), (ka, aK E 16 (kr)), (sa, aS E 64 (sr))] L F (fun r8 cx8 L8 F8 => ∃ (r1 : Int32) (F1 : Nat → va_E) (sl1 : Nat → Int32), r8 = some (.int (r1)) ∧ cx8 = [(xx, .inr (6, [.ref ka, .int (nI (nk)), .ref sa, .long (tr), .ref ma, .int (nI (ml)), .ref oa, .int (nI (on)), .ref ba, .ref h0, .ref c0])), (ka, aK E 16 (kr)), (sa, aS E 64 (sr))] ∧ L = L8 ∧ F1 = F8 ∧ (PS E L F1 kr sr nk ko kn kc sc sb sl1 ∧ (r1, sl1) = myS nk sl id k on9)) := by
  refine K_start (by decide) rfl rfl (Nat.le_of_ble_eq_true rfl) (fun g A Q hgl C r => ?_)
  subst hgl
  show G g muX4_may E A 0 0 Q [(xx, .inr (6, [.ref ka, .int (nI (nk)), .ref sa, .long (tr), .ref ma, .int (nI (ml)), .ref oa, .int (nI (on)), .ref ba, .ref h0, .ref c0])), (ka, aK E 16 (kr)), (sa, aS E 64 (sr))] L F 0 [(0, .ref xx), (1, .int (id)), (2, .int (k)), (3, .int (b2 on9))] []
  refine g_aload_n C dX4_may_0 rfl 0 rfl ?_
  refine g_iload_n C dX4_may_1 rfl 1 rfl ?_
  refine g_callV (v := muX4_findSender) (cx := [(xx, .inr (6, [.ref ka, .int (nI (nk)), .ref sa, .long (tr), .ref ma, .int (nI (ml)), .ref oa, .int (nI (on)), .ref ba, .ref h0, .ref c0])), (sa, aS E 64 (sr))]) C (k_X4_findSender (gl g) E xx ka sa ma oa ba h0 c0 nk ml on tr sr id L F ) [0, 2] rfl (by decide) 0 rfl rfl gi_X4_95 hd_X4_findSender ⟨Nat.le_of_ble_eq_true rfl, Nat.le_of_ble_eq_true rfl⟩ rfl rfl (Nat.le_of_ble_eq_true rfl) ⟨Nat.le_of_ble_eq_true rfl, Nat.le_of_ble_eq_true rfl⟩ dX4_may_2 (fun r9 cx9 L9 F9 hp9 hf9 hN9 => ?_)
  obtain ⟨rfl, rfl, rfl, rfl, -⟩ := hp9
  show G g muX4_may E A 0 0 Q [(xx, .inr (6, [.ref ka, .int (nI (nk)), .ref sa, .long (tr), .ref ma, .int (nI (ml)), .ref oa, .int (nI (on)), .ref ba, .ref h0, .ref c0])), (ka, aK E 16 (kr)), (sa, aS E 64 (sr))] L F 5 [(0, .ref xx), (1, .int (id)), (2, .int (k)), (3, .int (b2 on9))] [va_rf ((kf 64 id).bind sr)]
  rcases hsf : kf 64 id with _ | j
  · skip
    show G g muX4_may E A 0 0 Q [(xx, .inr (6, [.ref ka, .int (nI (nk)), .ref sa, .long (tr), .ref ma, .int (nI (ml)), .ref oa, .int (nI (on)), .ref ba, .ref h0, .ref c0])), (ka, aK E 16 (kr)), (sa, aS E 64 (sr))] L F 5 [(0, .ref xx), (1, .int (id)), (2, .int (k)), (3, .int (b2 on9))] [.null]
    refine g_astoreN (lv' := [(4, .null), (0, .ref xx), (1, .int (id)), (2, .int (k)), (3, .int (b2 on9))]) C dX4_may_5 (by decide) rfl ?_
    refine g_aloadN C dX4_may_7 0 rfl ?_
    refine g_ifnullN (tgt := 20) C dX4_may_9 (by decide) ?_
    refine g_iconst (v := (-1 : Int32)) C dX4_may_20 (by decide) ?_
    exact g_iret C r rfl ⟨-1, F, sl, rfl, rfl, rfl, rfl, hPS, by unfold myS; rw [hsf]⟩ rfl nN dX4_may_21
  · skip
    obtain ⟨hj_b9, hje_b9⟩ := kf_some (by omega) hsf
    obtain ⟨b9, hsr_b9, hsL_b9, hsF_b9, sset_b9⟩ := hPS.sender hj_b9
    rw [show Option.bind (some j) sr = some b9 from hsr_b9]
    show G g muX4_may E A 0 0 Q [(xx, .inr (6, [.ref ka, .int (nI (nk)), .ref sa, .long (tr), .ref ma, .int (nI (ml)), .ref oa, .int (nI (on)), .ref ba, .ref h0, .ref c0])), (ka, aK E 16 (kr)), (sa, aS E 64 (sr))] L F 5 [(0, .ref xx), (1, .int (id)), (2, .int (k)), (3, .int (b2 on9))] [.ref b9]
    refine g_astore (lv' := [(4, .ref b9), (0, .ref xx), (1, .int (id)), (2, .int (k)), (3, .int (b2 on9))]) C dX4_may_5 (by decide) rfl ?_
    refine g_aload C dX4_may_7 0 rfl ?_
    refine g_ifnull C dX4_may_9 ?_
    refine g_aload_n C dX4_may_12 rfl 1 rfl ?_
    refine g_iload_n C dX4_may_13 rfl 3 rfl ?_
    refine g_callV (v := muX4_findKey) (cx := [(xx, .inr (6, [.ref ka, .int (nI (nk)), .ref sa, .long (tr), .ref ma, .int (nI (ml)), .ref oa, .int (nI (on)), .ref ba, .ref h0, .ref c0])), (ka, aK E 16 (kr))]) C (k_X4_findKey (gl g) E xx ka sa ma oa ba h0 c0 nk ml on tr kr k L F hnk) [0, 1] rfl (by decide) 0 rfl rfl gi_X4_55 hd_X4_findKey ⟨Nat.le_of_ble_eq_true rfl, Nat.le_of_ble_eq_true rfl⟩ rfl rfl (Nat.le_of_ble_eq_true rfl) ⟨Nat.le_of_ble_eq_true rfl, Nat.le_of_ble_eq_true rfl⟩ dX4_may_14 (fun r9 cx9 L9 F9 hp9 hf9 hN9 => ?_)
    obtain ⟨rfl, rfl, rfl, rfl, -⟩ := hp9
    show G g muX4_may E A 0 0 Q [(xx, .inr (6, [.ref ka, .int (nI (nk)), .ref sa, .long (tr), .ref ma, .int (nI (ml)), .ref oa, .int (nI (on)), .ref ba, .ref h0, .ref c0])), (ka, aK E 16 (kr)), (sa, aS E 64 (sr))] L F 17 [(4, .ref b9), (0, .ref xx), (1, .int (id)), (2, .int (k)), (3, .int (b2 on9))] [va_rf ((kf nk k).bind kr)]
    rcases hkf : kf nk k with _ | i
    · skip
      show G g muX4_may E A 0 0 Q [(xx, .inr (6, [.ref ka, .int (nI (nk)), .ref sa, .long (tr), .ref ma, .int (nI (ml)), .ref oa, .int (nI (on)), .ref ba, .ref h0, .ref c0])), (ka, aK E 16 (kr)), (sa, aS E 64 (sr))] L F 17 [(4, .ref b9), (0, .ref xx), (1, .int (id)), (2, .int (k)), (3, .int (b2 on9))] [.null]
      refine g_ifnonnullN C dX4_may_17 ?_
      refine g_iconst (v := (-1 : Int32)) C dX4_may_20 (by decide) ?_
      exact g_iret C r rfl ⟨-1, F, sl, rfl, rfl, rfl, rfl, hPS, by unfold myS; rw [hsf, hkf]⟩ rfl nN dX4_may_21
    · skip
      obtain ⟨hi_a, hke_a⟩ := kf_some (by omega) hkf
      obtain ⟨a, o, hkr_a, hkL_a, hkF_a, hoL_a, hoF_a, hkn_a, hne_a, hset⟩ := hPS.key hi_a
      rw [show Option.bind (some i) kr = some a from hkr_a]
      show G g muX4_may E A 0 0 Q [(xx, .inr (6, [.ref ka, .int (nI (nk)), .ref sa, .long (tr), .ref ma, .int (nI (ml)), .ref oa, .int (nI (on)), .ref ba, .ref h0, .ref c0])), (ka, aK E 16 (kr)), (sa, aS E 64 (sr))] L F 17 [(4, .ref b9), (0, .ref xx), (1, .int (id)), (2, .int (k)), (3, .int (b2 on9))] [.ref a]
      refine g_ifnonnull (tgt := 22) C dX4_may_17 (by decide) ?_
      refine g_aload C dX4_may_22 0 rfl ?_
      refine g_iload_n C dX4_may_24 rfl 3 rfl ?_
      refine g_iload_n C dX4_may_25 rfl 4 rfl ?_
      refine g_callP (v := muX3_allow) (cx := []) C (k_X3_allow (gl g) E b9 (nI (j + 1)) (sl j) (sc j) (sb j) k on9 L F hsL_b9 hsF_b9) [] rfl (by decide) hsL_b9 hsF_b9 rfl gi_X4_154 hd_X3_allow ⟨Nat.le_of_ble_eq_true rfl, Nat.le_of_ble_eq_true rfl⟩ rfl rfl (Nat.le_of_ble_eq_true rfl) ⟨Nat.le_of_ble_eq_true rfl, Nat.le_of_ble_eq_true rfl⟩ dX4_may_26 (fun r9 cx9 L9 F9 hp9 hf9 hN9 => ?_)
      obtain ⟨rfl, rfl, rfl, rfl, -⟩ := hp9
      show G g muX4_may E A 0 0 Q [(xx, .inr (6, [.ref ka, .int (nI (nk)), .ref sa, .long (tr), .ref ma, .int (nI (ml)), .ref oa, .int (nI (on)), .ref ba, .ref h0, .ref c0])), (ka, aK E 16 (kr)), (sa, aS E 64 (sr))] L (va_up F b9 (.inr (5, [.int (nI (j + 1)), .long (sc j), .int (nI (sb j)), .int (alw (sl j) k on9)]))) 29 [(4, .ref b9), (0, .ref xx), (1, .int (id)), (2, .int (k)), (3, .int (b2 on9))] []
      refine g_aload C dX4_may_29 0 rfl ?_
      refine g_callP (v := muX3_countOfKeys) (cx := []) C (k_X3_countOfKeys (gl g) E b9 (nI (j + 1)) (alw (sl j) k on9) (sc j) (sb j) L (va_up F b9 (.inr (5, [.int (nI (j + 1)), .long (sc j), .int (nI (sb j)), .int (alw (sl j) k on9)]))) hsL_b9 (va_up_self _ _ _)) [] rfl (by decide) hsL_b9 (va_up_self _ _ _) rfl gi_X4_158 hd_X3_countOfKeys ⟨Nat.le_of_ble_eq_true rfl, Nat.le_of_ble_eq_true rfl⟩ rfl rfl (Nat.le_of_ble_eq_true rfl) ⟨Nat.le_of_ble_eq_true rfl, Nat.le_of_ble_eq_true rfl⟩ dX4_may_31 (fun r9 cx9 L9 F9 hp9 hf9 hN9 => ?_)
      obtain ⟨rfl, rfl, rfl, rfl, -⟩ := hp9
      show G g muX4_may E A 0 0 Q [(xx, .inr (6, [.ref ka, .int (nI (nk)), .ref sa, .long (tr), .ref ma, .int (nI (ml)), .ref oa, .int (nI (on)), .ref ba, .ref h0, .ref c0])), (ka, aK E 16 (kr)), (sa, aS E 64 (sr))] L (va_up F b9 (.inr (5, [.int (nI (j + 1)), .long (sc j), .int (nI (sb j)), .int (alw (sl j) k on9)]))) 34 [(4, .ref b9), (0, .ref xx), (1, .int (id)), (2, .int (k)), (3, .int (b2 on9))] [.int (bc (alw (sl j) k on9))]
      exact g_iret C r rfl ⟨bc (alw (sl j) k on9), va_up F b9 (.inr (5, [.int (nI (j + 1)), .long (sc j), .int (nI (sb j)), .int (alw (sl j) k on9)])), va_up sl j (alw (sl j) k on9), rfl, rfl, rfl, rfl, ps_l (sset_b9 (sc j) (sb j) (alw (sl j) k on9)), by unfold myS; rw [hsf, hkf]⟩ rfl nN dX4_may_34
