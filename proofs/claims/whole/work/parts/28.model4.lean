theorem numS {f1 frw : Nat → Int32} {v : Int64} {n a i : Nat} (hi : i < n) (h1 : ∀ j, j < i → f1 (a + j) = nbv v (n - 1 - j)) (h2 : ∀ p, p < a ∨ a + n ≤ p → f1 p = frw p) :
    (∀ j, j < i + 1 → upd f1 (a + i) (nbv v (n - 1 - i)) (a + j) = nbv v (n - 1 - j)) ∧ ∀ p, p < a ∨ a + n ≤ p → upd f1 (a + i) (nbv v (n - 1 - i)) p = frw p := by
  refine ⟨fun j hj => ?_, fun p hp => ?_⟩
  · by_cases e : j = i
    · subst e; rw [pk_us]
    · rw [pk_un (by omega)]; exact h1 j (by omega)
  · rw [pk_un (by omega)]; exact h2 p hp
theorem nbv_O (v : Int64) (i : Nat) : isO (nbv v i) := by
  unfold nbv
  generalize v >>> ((nI (8 * i)).toInt64 &&& 63) = x
  have e : (x &&& 255).toInt32 = x.toInt32 &&& nI 255 := by
    rw [Int64.toInt32_and]
    rfl
  rw [e]
  exact isO_and _
theorem pneF_O (c : Int64) : ∀ i, i < 16 → isO (pneF (fun _ => nI 0) c i) := by
  intro i _
  unfold pneF
  split
  · exact isO_n (by decide)
  · exact nbv_O _ _
theorem wrM_O {msg : Nat → Int32} (h : ∀ j, j < 300 → isO (msg j)) (c : Int64) : ∀ j, j < 24 → isO (wrM c msg j) := by
  intro j hj
  unfold wrM
  split
  · exact nbv_O _ _
  · exact h _ (by omega)
theorem cdM_O {msg : Nat → Int32} (h : ∀ j, j < 300 → isO (msg j)) (id : Int32) (tr c : Int64) {n : Nat} (hn : n ≤ 313) : ∀ j, j < n → isO (cdM id tr c msg j) := by
  intro j hj
  unfold cdM
  split
  · exact nbv_O _ _
  · split
    · exact nbv_O _ _
    · split
      · exact nbv_O _ _
      · exact h _ (by omega)
theorem codE {src ft1 f2 : Nat → Int32} {bi p : Nat} (hb1 : 32 ≤ bi) (hb2 : bi ≤ 128) (hO : ∀ j, j < 16 → isO (src j)) (hf1 : ∀ j, j < (bi + 7) / 8 - 1 → f2 j = ft1 j) (hf2 : f2 ((bi + 7) / 8 - 1) = clS (ft1 ((bi + 7) / 8 - 1)) bi (p - bi)) (hp : p = 8 * ((bi + 7) / 8)) (hft : pfx ft1 src ((bi + 7) / 8)) : ∀ j, j < (bi + 7) / 8 → f2 j = ansF src bi j := by
  intro j hj
  by_cases e : j = (bi + 7) / 8 - 1
  · rw [e, hf2, hft _ (by omega), hp, ← ans_hi hb2 (j := (bi + 7) / 8 - 1) (by omega) (by omega) (hO _ (by omega))]
    congr 1
    omega
  · rw [hf1 j (by omega), hft j hj, ans_lo hb2 (by omega) (hO j (by omega))]
theorem codS {ft1 f2 : Nat → Int32} {bi p n : Nat} (hp : bi ≤ p) (hf1 : ∀ j, j < n - 1 → f2 j = ft1 j) (hf2 : f2 (n - 1) = clS (ft1 (n - 1)) bi (p - bi)) :
    (∀ j, j < n - 1 → upd f2 (n - 1) (f2 (n - 1) &&& ((nI 128 >>> (nI (p % 8) &&& 31)) ^^^ (-1))) j = ft1 j) ∧ upd f2 (n - 1) (f2 (n - 1) &&& ((nI 128 >>> (nI (p % 8) &&& 31)) ^^^ (-1))) (n - 1) = clS (ft1 (n - 1)) bi (p + 1 - bi) := by
  refine ⟨fun j hj => by rw [pk_un (by omega)]; exact hf1 j hj, ?_⟩
  rw [pk_us, hf2, show p + 1 - bi = (p - bi) + 1 by omega, clS, show bi + (p - bi) = p by omega]
theorem d_eq {cut : Int32} {c : Int64} (h1 : ¬ cut < 0) (h2 : cut ≤ nI 255) : ((((cut.toInt64) - (c &&& 255)) + 256) - (((cut.toInt64) - (c &&& 255)) + 256) / 256 * 256).toInt32 = dS cut c := by
  obtain ⟨a, ha, rfl⟩ := nI_of h1
  have ha2 : a ≤ 255 := (nI_leI ha (by decide)).mp h2
  have hb : ∃ b, b < 256 ∧ c &&& 255 = lN b := by
    refine ⟨c.toBitVec.toNat % 256, by omega, ?_⟩
    apply Int64.toBitVec_inj.mp
    apply BitVec.eq_of_toNat_eq
    rw [Int64.toBitVec_and, BitVec.toNat_and]
    show c.toBitVec.toNat &&& 255 = (c.toBitVec.toNat % 256) % 2 ^ 64
    rw [show (255 : Nat) = 2 ^ 8 - 1 by decide, Nat.and_two_pow_sub_one_eq_mod]
    omega
  obtain ⟨b, hb1, hb2⟩ := hb
  unfold dS
  rw [hb2, nI_l (by omega)]
  have e1 : lN a - lN b + 256 = lN (a + 256 - b) := by
    have e : lN a - lN b + 256 = lN a + 256 - lN b := by
      rw [Int64.sub_eq_add_neg, Int64.sub_eq_add_neg, Int64.add_assoc, Int64.add_comm (-lN b), ← Int64.add_assoc]
    rw [e, show (256 : Int64) = lN 256 from rfl, lN_add, lN_sub (by omega)]
  rw [e1, show (256 : Int64) = lN 256 from rfl, pk_lRem (by omega) (by decide) (by decide), lN_i, lN_i]
  rw [pk_and (nI a - nI b) 8 (by decide)]
  congr 1
  have e2 : (nI a - nI b).toBitVec.toNat = (2 ^ 32 - b + a) % 2 ^ 32 := by
    rw [Int32.toBitVec_sub, BitVec.toNat_sub, pk_tn (by omega), pk_tn (by omega)]
  rw [e2]
  omega
theorem dS_of (cut : Int32) (c : Int64) : ∃ d, d < 256 ∧ dS cut c = nI d := by
  unfold dS
  exact pk_andE _ 8 (by decide)
theorem l62 {s : Int64} {d : Int32} (h0 : 0 ≤ s.toInt) (h1 : s.toInt ≤ 4611686018427387904) (hd : ∃ n, n < 256 ∧ d = nI n) : s ≤ 4611686018427387904 - d.toInt64 ↔ s + d.toInt64 ≤ 4611686018427387904 := by
  obtain ⟨n, hn, rfl⟩ := hd
  rw [nI_l (by omega), Int64.le_iff_toInt_le, Int64.le_iff_toInt_le]
  obtain ⟨m, hm⟩ : ∃ m : Nat, s.toInt = m := ⟨s.toInt.toNat, by omega⟩
  have es : s = lN m := by
    apply Int64.toInt_inj.mp
    rw [hm, pk_lT (by omega)]
  have e1 : (4611686018427387904 - lN n : Int64) = lN (4611686018427387904 - n) := by
    rw [show (4611686018427387904 : Int64) = lN 4611686018427387904 from rfl, lN_sub (by omega)]
  rw [e1, es, lN_add, show (4611686018427387904 : Int64) = lN 4611686018427387904 from rfl, pk_lT (by omega), pk_lT (by omega), pk_lT (by omega), pk_lT (by omega)]
  omega
theorem cd_0 {w0 w1 w2 w3 msg : Nat → Int32} {id : Int32} {tr c : Int64} (a1 : ∀ j, j < 1 → w1 (0 + j) = nbv id.toInt64 (1 - 1 - j)) (b1 : ∀ p, p < 0 ∨ 0 + 1 ≤ p → w1 p = w0 p) (a2 : ∀ j, j < 4 → w2 (1 + j) = nbv tr (4 - 1 - j)) (b2 : ∀ p, p < 1 ∨ 1 + 4 ≤ p → w2 p = w1 p) (a3 : ∀ j, j < 8 → w3 (5 + j) = nbv c (8 - 1 - j)) (b3 : ∀ p, p < 5 ∨ 5 + 8 ≤ p → w3 p = w2 p) : ∀ p, p < 13 → w3 p = cdM id tr c msg p := by
  intro p hp
  unfold cdM
  by_cases h1 : p < 1
  · rw [if_pos h1, b3 p (by omega), b2 p (by omega)]
    have := a1 0 (by omega)
    rw [show p = 0 + 0 by omega]
    exact this
  · rw [if_neg h1]
    by_cases h2 : p < 5
    · rw [if_pos h2, b3 p (by omega)]
      have := a2 (p - 1) (by omega)
      rwa [show 1 + (p - 1) = p by omega, show 4 - 1 - (p - 1) = 4 - p by omega] at this
    · rw [if_neg h2, if_pos hp]
      have := a3 (p - 5) (by omega)
      rwa [show 5 + (p - 5) = p by omega, show 8 - 1 - (p - 5) = 12 - p by omega] at this
theorem cd_s {f1 msg : Nat → Int32} {id : Int32} {tr c : Int64} {q : Nat} (h : ∀ p, p < 13 + q → f1 p = cdM id tr c msg p) : ∀ p, p < 13 + (q + 1) → upd f1 (13 + q) (msg q) p = cdM id tr c msg p := by
  intro p hp
  by_cases e : p = 13 + q
  · subst e
    rw [pk_us]
    unfold cdM
    rw [if_neg (by omega), if_neg (by omega), if_neg (by omega), show 13 + q - 13 = q by omega]
  · rw [pk_un e]; exact h p (by omega)
theorem wr_0 {w0 w1 msg : Nat → Int32} {c : Int64} (a1 : ∀ j, j < 8 → w1 (0 + j) = nbv c (8 - 1 - j)) : ∀ p, p < 8 + 0 → w1 p = wrM c msg p := by
  intro p hp
  unfold wrM
  rw [if_pos (by omega)]
  have := a1 p (by omega)
  rwa [Nat.zero_add, show 8 - 1 - p = 7 - p by omega] at this
theorem wr_s {f1 msg : Nat → Int32} {c : Int64} {q : Nat} (h : ∀ p, p < 8 + q → f1 p = wrM c msg p) : ∀ p, p < 8 + (q + 1) → upd f1 (8 + q) (msg q) p = wrM c msg p := by
  intro p hp
  by_cases e : p = 8 + q
  · subst e
    rw [pk_us]
    unfold wrM
    rw [if_neg (by omega), show 8 + q - 8 = q by omega]
  · rw [pk_un e]; exact h p (by omega)
theorem ocS {f3 foc : Nat → Int32} {UW : Nat → Int32} {a n : Nat} (hn : n < 16) (h1 : ∀ j, j < n → f3 (a + j) = UW j) (h2 : ∀ p, p < a ∨ a + 16 ≤ p → f3 p = foc p) : (∀ j, j < n + 1 → upd f3 (a + n) (UW n) (a + j) = UW j) ∧ ∀ p, p < a ∨ a + 16 ≤ p → upd f3 (a + n) (UW n) p = foc p := by
  refine ⟨fun j hj => ?_, fun p hp => ?_⟩
  · by_cases e : j = n
    · subst e; rw [pk_us]
    · rw [pk_un (by omega)]; exact h1 j (by omega)
  · rw [pk_un (by omega)]; exact h2 p hp
theorem eqN_t {p q : Nat → Int32} {k : Nat} (h : eqN p q k = true) (e : q k = p k) : eqN p q (k + 1) = true := eqN_s h e.symm
theorem eqN_x {p q : Nat → Int32} {k : Nat} (h : eqN p q k = false) : eqN p q (k + 1) = false := by rw [eqN, h, Bool.false_and]
theorem eqN_y {p q : Nat → Int32} {k : Nat} (e : ¬ q k = p k) : eqN p q (k + 1) = false := eqN_f (fun z => e z.symm) (k + 1) (Nat.lt_succ_self k)
abbrev muX5_number : Mu := (cX5_number, 6, RX5, none, "number", 0, 0, 0, 0)
theorem hd_X5_number : yX5_number.cls = RX5 ∧ yX5_number.cls ≠ "java/lang/invoke/MethodHandle" ∧ yX5_number.cls ≠ "java/lang/invoke/VarHandle" ∧ (parseMethodDescriptor yX5_number.desc).map (fun d => d.parameters.length) = some 3 := by decide +kernel
set_option maxHeartbeats 4000000 in
set_option maxRecDepth 100000 in
theorem k_X5_number (l : Launch) (E : Ev) (mm oc nx ia ms ot my co bd bk oh rd mk rw ss : Nat) (cd : Int32) (nk ln os : Nat) (tp : Int64) (frw : Nat → Int32) (v : Int64) (n a : Nat) (L : List Nat) (F : Nat → va_E) (hn : n ≤ 8) (ha : a + n ≤ 320) : KC l E yX5_number muX5_number [.ref mm, .long (v), .int (nI (n)), .int (nI (a))] [(mm, .inr (7, [.int (cd), .int (nI (nk)), .ref oc, .ref nx, .ref ia, .ref ms, .int (nI (ln)), .int (nI (os)), .ref ot, .long (tp), .ref my, .ref co, .ref bd, .ref bk, .ref oh, .ref rd, .ref mk, .ref rw, .ref ss])), (rw, aI E 320 (frw))] L F (fun r8 cx8 L8 F8 => ∃ (frw1 : Nat → Int32), r8 = none ∧ cx8 = [(mm, .inr (7, [.int (cd), .int (nI (nk)), .ref oc, .ref nx, .ref ia, .ref ms, .int (nI (ln)), .int (nI (os)), .ref ot, .long (tp), .ref my, .ref co, .ref bd, .ref bk, .ref oh, .ref rd, .ref mk, .ref rw, .ref ss])), (rw, aI E 320 (frw1))] ∧ L = L8 ∧ F = F8 ∧ ((∀ j, j < n → frw1 (a + j) = nbv v (n - 1 - j)) ∧ ∀ p, p < a ∨ a + n ≤ p → frw1 p = frw p)) := by
  refine K_start (by decide) rfl rfl (Nat.le_of_ble_eq_true rfl) (fun g A Q hgl C r => ?_)
  subst hgl
  show G g muX5_number E A 0 0 Q [(mm, .inr (7, [.int (cd), .int (nI (nk)), .ref oc, .ref nx, .ref ia, .ref ms, .int (nI (ln)), .int (nI (os)), .ref ot, .long (tp), .ref my, .ref co, .ref bd, .ref bk, .ref oh, .ref rd, .ref mk, .ref rw, .ref ss])), (rw, aI E 320 (frw))] L F 0 [(0, .ref mm), (1, .long (v)), (3, .int (nI (n))), (4, .int (nI (a)))] []
  refine g_iconst (v := nI (0)) C dX5_number_0 (by decide) ?_
  refine g_istore (lv' := [(5, .int (nI (0))), (0, .ref mm), (1, .long (v)), (3, .int (nI (n))), (4, .int (nI (a)))]) C dX5_number_1 (by decide) rfl ?_
  have lp3 : ∀ (n3 : Nat) (i : Nat) (f1 : Nat → Int32), (i ≤ n) → (∀ j, j < i → f1 (a + j) = nbv v (n - 1 - j)) → (∀ p, p < a ∨ a + n ≤ p → f1 p = frw p) → n + 1 ≤ i + n3 → G g muX5_number E A 0 0 Q [(mm, .inr (7, [.int (cd), .int (nI (nk)), .ref oc, .ref nx, .ref ia, .ref ms, .int (nI (ln)), .int (nI (os)), .ref ot, .long (tp), .ref my, .ref co, .ref bd, .ref bk, .ref oh, .ref rd, .ref mk, .ref rw, .ref ss])), (rw, aI E 320 (f1))] L F 3 [(0, .ref mm), (1, .long (v)), (3, .int (nI (n))), (4, .int (nI (a))), (5, .int (nI (i)))] [] := by
    intro n3
    induction n3 with
    | zero => intro i f1 hi h1 h2 hfu3; exact absurd hfu3 (by omega)
    | succ n3 ih3 =>
      intro i f1 hi h1 h2 hfu3
      refine g_iload C dX5_number_3 4 rfl ?_
      refine g_iload_n C dX5_number_5 rfl 2 rfl ?_
      refine g_nicmp_ge (tgt := 41) C dX5_number_6 (by decide) (by omega) (by omega) (fun c6 => ?_) (fun c6 => ?_)
      · skip
        exact g_vret C r rfl ⟨f1, rfl, rfl, rfl, rfl, (fun j hj => h1 j (by omega)), h2⟩ rfl nN dX5_number_41
      · skip
        refine g_aload_n C dX5_number_9 rfl 0 rfl ?_
        refine g_getX C 0 rfl rfl inX5 17 (by decide) m_437 rfl dX5_number_10 ?_
        refine g_iload C dX5_number_13 3 rfl ?_
        refine g_iload C dX5_number_15 4 rfl ?_
        refine g_iadd C dX5_number_17 ?_
        refine g_asi (nI_add _ _) ?_
        refine g_lload_n C dX5_number_18 rfl 1 rfl ?_
        refine g_bipush (v := nI (8)) C dX5_number_19 (by decide) ?_
        refine g_iload_n C dX5_number_21 rfl 2 rfl ?_
        refine g_iconst (v := nI (1)) C dX5_number_22 (by decide) ?_
        refine g_isub C dX5_number_23 ?_
        refine g_asi (pk_sub (by omega)) ?_
        refine g_iload C dX5_number_24 4 rfl ?_
        refine g_isub C dX5_number_26 ?_
        refine g_asi (pk_sub (by omega)) ?_
        refine g_imul C dX5_number_27 ?_
        refine g_asi (pk_mul _ _) ?_
        refine g_lshr (v := v >>> ((nI (8 * ((n - 1) - i))).toInt64 &&& 63)) C dX5_number_28 rfl ?_
        refine g_ldc2_w C m_552 dX5_number_29 ?_
        refine g_land C dX5_number_32 ?_
        refine g_l2i (v := ((v >>> ((nI (8 * ((n - 1) - i))).toInt64 &&& 63)) &&& 255).toInt32) C dX5_number_33 rfl ?_
        refine g_asi (show (((v >>> ((nI (8 * ((n - 1) - i))).toInt64 &&& 63)) &&& 255).toInt32) = (nbv v (n - 1 - i)) from rfl) ?_
        refine g_iast (X' := [(mm, .inr (7, [.int (cd), .int (nI (nk)), .ref oc, .ref nx, .ref ia, .ref ms, .int (nI (ln)), .int (nI (os)), .ref ot, .long (tp), .ref my, .ref co, .ref bd, .ref bk, .ref oh, .ref rd, .ref mk, .ref rw, .ref ss])), (rw, aI E 320 (upd f1 (a + i) (nbv v (n - 1 - i))))]) C 1 rfl (by omega) (by decide) rfl dX5_number_34 ?_
        refine g_iinc (v := nI (i + 1)) (lv' := [(5, .int (nI (i + 1))), (0, .ref mm), (1, .long (v)), (3, .int (nI (n))), (4, .int (nI (a)))]) C dX5_number_35 4 rfl (nI_inc _ 1) (by decide) rfl ?_
        refine g_goto (tgt := 3) C dX5_number_38 (by decide) ?_
        refine g_lv [1, 2, 3, 4, 0] rfl ?_
        exact ih3 (i + 1) (upd f1 (a + i) (nbv v (n - 1 - i))) (by omega) ((numS c6 h1 h2).1) ((numS c6 h1 h2).2) (by omega)
  refine g_lv [1, 2, 3, 4, 0] rfl ?_
  exact lp3 (n + 1) 0 frw (Nat.zero_le _) (fun j hj => absurd hj (Nat.not_lt_zero j)) (fun _ _ => rfl) (by omega)
abbrev muX5_fits : Mu := (cX5_fits, 4, RX5, (some .boolean), "fits", 0, 0, 0, 0)
theorem hd_X5_fits : yX5_fits.cls = RX5 ∧ yX5_fits.cls ≠ "java/lang/invoke/MethodHandle" ∧ yX5_fits.cls ≠ "java/lang/invoke/VarHandle" ∧ (parseMethodDescriptor yX5_fits.desc).map (fun d => d.parameters.length) = some 1 := by decide +kernel
set_option maxHeartbeats 4000000 in
set_option maxRecDepth 100000 in
theorem k_X5_fits (l : Launch) (E : Ev) (mm oc nx ia ms ot my co bd bk oh rd mk rw ss : Nat) (cd : Int32) (nk ln os : Nat) (tp : Int64) (msg fbk : Nat → Int32) (a : Nat) (L : List Nat) (F : Nat → va_E) (ha : a ≤ 292) : KC l E yX5_fits muX5_fits [.ref mm, .int (nI (a))] [(mm, .inr (7, [.int (cd), .int (nI (nk)), .ref oc, .ref nx, .ref ia, .ref ms, .int (nI (ln)), .int (nI (os)), .ref ot, .long (tp), .ref my, .ref co, .ref bd, .ref bk, .ref oh, .ref rd, .ref mk, .ref rw, .ref ss])), (ms, aI E 300 (msg)), (bk, aI E 16 (fbk))] L F (fun r8 cx8 L8 F8 => r8 = some (.int (b2 (eqN fbk (fun j => msg (a + j)) 8))) ∧ cx8 = [(mm, .inr (7, [.int (cd), .int (nI (nk)), .ref oc, .ref nx, .ref ia, .ref ms, .int (nI (ln)), .int (nI (os)), .ref ot, .long (tp), .ref my, .ref co, .ref bd, .ref bk, .ref oh, .ref rd, .ref mk, .ref rw, .ref ss])), (ms, aI E 300 (msg)), (bk, aI E 16 (fbk))] ∧ L = L8 ∧ F = F8 ∧ (True)) := by
  refine K_start (by decide) rfl rfl (Nat.le_of_ble_eq_true rfl) (fun g A Q hgl C r => ?_)
  subst hgl
  show G g muX5_fits E A 0 0 Q [(mm, .inr (7, [.int (cd), .int (nI (nk)), .ref oc, .ref nx, .ref ia, .ref ms, .int (nI (ln)), .int (nI (os)), .ref ot, .long (tp), .ref my, .ref co, .ref bd, .ref bk, .ref oh, .ref rd, .ref mk, .ref rw, .ref ss])), (ms, aI E 300 (msg)), (bk, aI E 16 (fbk))] L F 0 [(0, .ref mm), (1, .int (nI (a)))] []
  refine g_iconst (v := nI (1)) C dX5_fits_0 (by decide) ?_
  refine g_asi (show (nI (1)) = (b2 (eqN fbk (fun j => msg (a + j)) 0)) from rfl) ?_
  refine g_istore_n (lv' := [(2, .int (b2 (eqN fbk (fun j => msg (a + j)) 0))), (0, .ref mm), (1, .int (nI (a)))]) C dX5_fits_1 rfl (by decide) rfl ?_
  refine g_iconst (v := nI (0)) C dX5_fits_2 (by decide) ?_
  refine g_istore_n (lv' := [(3, .int (nI (0))), (2, .int (b2 (eqN fbk (fun j => msg (a + j)) 0))), (0, .ref mm), (1, .int (nI (a)))]) C dX5_fits_3 rfl (by decide) rfl ?_
  have lp4 : ∀ (n4 : Nat) (i : Nat), (i ≤ 8) → 9 ≤ i + n4 → G g muX5_fits E A 0 0 Q [(mm, .inr (7, [.int (cd), .int (nI (nk)), .ref oc, .ref nx, .ref ia, .ref ms, .int (nI (ln)), .int (nI (os)), .ref ot, .long (tp), .ref my, .ref co, .ref bd, .ref bk, .ref oh, .ref rd, .ref mk, .ref rw, .ref ss])), (ms, aI E 300 (msg)), (bk, aI E 16 (fbk))] L F 4 [(0, .ref mm), (1, .int (nI (a))), (2, .int (b2 (eqN fbk (fun j => msg (a + j)) i))), (3, .int (nI (i)))] [] := by
    intro n4
    induction n4 with
    | zero => intro i hi hfu4; exact absurd hfu4 (by omega)
    | succ n4 ih4 =>
      intro i hi hfu4
      refine g_iload_n C dX5_fits_4 rfl 3 rfl ?_
      refine g_bipush (v := nI (8)) C dX5_fits_5 (by decide) ?_
      refine g_nicmp_ge (tgt := 43) C dX5_fits_7 (by decide) (by omega) (by omega) (fun c7 => ?_) (fun c7 => ?_)
      · skip
        refine g_iload_n C dX5_fits_43 rfl 2 rfl ?_
        refine g_asi (show (b2 (eqN fbk (fun j => msg (a + j)) i)) = (b2 (eqN fbk (fun j => msg (a + j)) 8)) from (by rw [show i = 8 by omega])) ?_
        exact g_zret C r rfl (b2_nar _) ⟨rfl, rfl, rfl, rfl, trivial⟩ rfl nN dX5_fits_44
      · skip
        refine g_iload_n C dX5_fits_10 rfl 2 rfl ?_
        refine g_if_eq (tgt := 35) C dX5_fits_11 (by decide) (fun c11 => ?_) (fun c11 => ?_)
        · skip
          refine g_iconst (v := nI (0)) C dX5_fits_35 (by decide) ?_
          refine g_asi (show (nI (0)) = (b2 (eqN fbk (fun j => msg (a + j)) (i + 1))) from (by rw [eqN_x (b2_f c11)]; rfl)) ?_
          refine g_istore_n (lv' := [(2, .int (b2 (eqN fbk (fun j => msg (a + j)) (i + 1)))), (0, .ref mm), (1, .int (nI (a))), (3, .int (nI (i)))]) C dX5_fits_36 rfl (by decide) rfl ?_
          refine g_iinc (v := nI (i + 1)) (lv' := [(3, .int (nI (i + 1))), (2, .int (b2 (eqN fbk (fun j => msg (a + j)) (i + 1)))), (0, .ref mm), (1, .int (nI (a)))]) C dX5_fits_37 3 rfl (nI_inc _ 1) (by decide) rfl ?_
          refine g_goto (tgt := 4) C dX5_fits_40 (by decide) ?_
          refine g_lv [2, 3, 1, 0] rfl ?_
          exact ih4 (i + 1) (by omega) (by omega)
        · skip
          refine g_aload_n C dX5_fits_14 rfl 0 rfl ?_
          refine g_getX C 0 rfl rfl inX5 5 (by decide) m_425 rfl dX5_fits_15 ?_
          refine g_iload_n C dX5_fits_18 rfl 1 rfl ?_
          refine g_iload_n C dX5_fits_19 rfl 3 rfl ?_
          refine g_iadd C dX5_fits_20 ?_
          refine g_asi (nI_add _ _) ?_
          refine g_iald C 1 rfl (by omega) (by decide) dX5_fits_21 ?_
          refine g_aload_n C dX5_fits_22 rfl 0 rfl ?_
          refine g_getX C 0 rfl rfl inX5 13 (by decide) m_433 rfl dX5_fits_23 ?_
          refine g_iload_n C dX5_fits_26 rfl 3 rfl ?_
          refine g_iald C 2 rfl (by omega) (by decide) dX5_fits_27 ?_
          refine g_icmp_ne (tgt := 35) C dX5_fits_28 (by decide) (fun c28 => ?_) (fun c28 => ?_)
          · skip
            refine g_iconst (v := nI (0)) C dX5_fits_35 (by decide) ?_
            refine g_asi (show (nI (0)) = (b2 (eqN fbk (fun j => msg (a + j)) (i + 1))) from (by rw [eqN_y c28]; rfl)) ?_
            refine g_istore_n (lv' := [(2, .int (b2 (eqN fbk (fun j => msg (a + j)) (i + 1)))), (0, .ref mm), (1, .int (nI (a))), (3, .int (nI (i)))]) C dX5_fits_36 rfl (by decide) rfl ?_
            refine g_iinc (v := nI (i + 1)) (lv' := [(3, .int (nI (i + 1))), (2, .int (b2 (eqN fbk (fun j => msg (a + j)) (i + 1)))), (0, .ref mm), (1, .int (nI (a)))]) C dX5_fits_37 3 rfl (nI_inc _ 1) (by decide) rfl ?_
            refine g_goto (tgt := 4) C dX5_fits_40 (by decide) ?_
            refine g_lv [2, 3, 1, 0] rfl ?_
            exact ih4 (i + 1) (by omega) (by omega)
          · skip
            refine g_iconst (v := nI (1)) C dX5_fits_31 (by decide) ?_
            refine g_asi (show (nI (1)) = (b2 (eqN fbk (fun j => msg (a + j)) (i + 1))) from (by rw [eqN_t (b2_t c11) c28]; rfl)) ?_
            refine g_goto (tgt := 36) C dX5_fits_32 (by decide) ?_
            refine g_istore_n (lv' := [(2, .int (b2 (eqN fbk (fun j => msg (a + j)) (i + 1)))), (0, .ref mm), (1, .int (nI (a))), (3, .int (nI (i)))]) C dX5_fits_36 rfl (by decide) rfl ?_
            refine g_iinc (v := nI (i + 1)) (lv' := [(3, .int (nI (i + 1))), (2, .int (b2 (eqN fbk (fun j => msg (a + j)) (i + 1)))), (0, .ref mm), (1, .int (nI (a)))]) C dX5_fits_37 3 rfl (nI_inc _ 1) (by decide) rfl ?_
            refine g_goto (tgt := 4) C dX5_fits_40 (by decide) ?_
            refine g_lv [2, 3, 1, 0] rfl ?_
            exact ih4 (i + 1) (by omega) (by omega)
  refine g_lv [2, 3, 1, 0] rfl ?_
  exact lp4 9 0 (Nat.zero_le _) (by omega)
abbrev muX5_code : Mu := (cX5_code, 5, RX5, (some .int), "code", 4, 0, 0, 102)
theorem hd_X5_code : yX5_code.cls = RX5 ∧ yX5_code.cls ≠ "java/lang/invoke/MethodHandle" ∧ yX5_code.cls ≠ "java/lang/invoke/VarHandle" ∧ (parseMethodDescriptor yX5_code.desc).map (fun d => d.parameters.length) = some 2 := by decide +kernel
set_option maxHeartbeats 4000000 in
set_option maxRecDepth 100000 in
theorem k_X5_code (l : Launch) (E : Ev) (mm oc nx ia ms ot my co bd bk oh rd mk rw ss : Nat) (cd : Int32) (nk ln os : Nat) (tp : Int64) (foc fnx frd fbk foh fmk frw msg fot ov : Nat → Int32) (fis : Nat → Int64) (ko : Nat → Nat → Int32) (kn : Nat → Nat) (kc : Nat → Int64) (k bits : Int32) (L : List Nat) (F : Nat → va_E) (hnk : nk ≤ 16) (hMK : MK foc fnx fis nk ko kn kc) (hmsg : ∀ j, j < 300 → isO (msg j)) (hml : ln ≤ 300) (hos : os ≤ 16) (hot : ∀ j, j < os → fot j = ov j) : KC l E yX5_code muX5_code [.ref mm, .int (k), .int (bits)] [(mm, .inr (7, [.int (cd), .int (nI (nk)), .ref oc, .ref nx, .ref ia, .ref ms, .int (nI (ln)), .int (nI (os)), .ref ot, .long (tp), .ref my, .ref co, .ref bd, .ref bk, .ref oh, .ref rd, .ref mk, .ref rw, .ref ss])), (oc, aI E 272 (foc)), (rd, aI E 176 (frd)), (ss, aI E 256 (TB)), (bk, aI E 16 (fbk)), (oh, aI E 16 (foh)), (mk, aI E 16 (fmk)), (rw, aI E 320 (frw)), (ms, aI E 300 (msg)), (ot, aI E 16 (fot))] L F (fun r8 cx8 L8 F8 => ∃ (ml1 on1 : Nat) (frd1 fbk1 foh1 fmk1 frw1 fot1 : Nat → Int32), r8 = some (.int ((cdS nk ko ln msg os ov k bits).1)) ∧ cx8 = [(mm, .inr (7, [.int (nI 0), .int (nI (nk)), .ref oc, .ref nx, .ref ia, .ref ms, .int (nI (ml1)), .int (nI (on1)), .ref ot, .long (tp), .ref my, .ref co, .ref bd, .ref bk, .ref oh, .ref rd, .ref mk, .ref rw, .ref ss])), (oc, aI E 272 (foc)), (rd, aI E 176 (frd1)), (ss, aI E 256 (TB)), (bk, aI E 16 (fbk1)), (oh, aI E 16 (foh1)), (mk, aI E 16 (fmk1)), (rw, aI E 320 (frw1)), (ms, aI E 300 (msg)), (ot, aI E 16 (fot1))] ∧ L = L8 ∧ F = F8 ∧ (ml1 = (cdS nk ko ln msg os ov k bits).2.1 ∧ on1 = (cdS nk ko ln msg os ov k bits).2.2.1 ∧ ∀ j, j < on1 → fot1 j = (cdS nk ko ln msg os ov k bits).2.2.2 j)) := by
  refine K_start (by decide) rfl rfl (Nat.le_of_ble_eq_true rfl) (fun g A Q hgl C r => ?_)
  subst hgl
  show G g muX5_code E A 0 0 Q [(mm, .inr (7, [.int (cd), .int (nI (nk)), .ref oc, .ref nx, .ref ia, .ref ms, .int (nI (ln)), .int (nI (os)), .ref ot, .long (tp), .ref my, .ref co, .ref bd, .ref bk, .ref oh, .ref rd, .ref mk, .ref rw, .ref ss])), (oc, aI E 272 (foc)), (rd, aI E 176 (frd)), (ss, aI E 256 (TB)), (bk, aI E 16 (fbk)), (oh, aI E 16 (foh)), (mk, aI E 16 (fmk)), (rw, aI E 320 (frw)), (ms, aI E 300 (msg)), (ot, aI E 16 (fot))] L F 0 [(0, .ref mm), (1, .int (k)), (2, .int (bits))] []
  refine g_aload_n C dX5_code_0 rfl 0 rfl ?_
  refine g_iload_n C dX5_code_1 rfl 1 rfl ?_
  refine g_callV (v := muX5_noKey) (cx := [(mm, .inr (7, [.int (cd), .int (nI (nk)), .ref oc, .ref nx, .ref ia, .ref ms, .int (nI (ln)), .int (nI (os)), .ref ot, .long (tp), .ref my, .ref co, .ref bd, .ref bk, .ref oh, .ref rd, .ref mk, .ref rw, .ref ss]))]) C (k_X5_noKey (gl g) E mm oc nx ia ms ot my co bd bk oh rd mk rw ss cd nk ln os tp k L F ) [0] rfl (by decide) 0 rfl rfl gi_X5_82 hd_X5_noKey ⟨Nat.le_of_ble_eq_true rfl, Nat.le_of_ble_eq_true rfl⟩ rfl rfl (Nat.le_of_ble_eq_true rfl) ⟨Nat.le_of_ble_eq_true rfl, Nat.le_of_ble_eq_true rfl⟩ dX5_code_2 (fun r9 cx9 L9 F9 hp9 hf9 hN9 => ?_)
  obtain ⟨rfl, rfl, rfl, rfl, -⟩ := hp9
  show G g muX5_code E A 0 0 Q [(mm, .inr (7, [.int (nI 0), .int (nI (nk)), .ref oc, .ref nx, .ref ia, .ref ms, .int (nI (ln)), .int (nI (os)), .ref ot, .long (tp), .ref my, .ref co, .ref bd, .ref bk, .ref oh, .ref rd, .ref mk, .ref rw, .ref ss])), (oc, aI E 272 (foc)), (rd, aI E 176 (frd)), (ss, aI E 256 (TB)), (bk, aI E 16 (fbk)), (oh, aI E 16 (foh)), (mk, aI E 16 (fmk)), (rw, aI E 320 (frw)), (ms, aI E 300 (msg)), (ot, aI E 16 (fot))] L F 5 [(0, .ref mm), (1, .int (k)), (2, .int (bits))] [.int (b2 (kf nk k).isNone)]
  refine g_if_eq (tgt := 10) C dX5_code_5 (by decide) (fun c5 => ?_) (fun c5 => ?_)
  · skip
    obtain ⟨i, hkf⟩ := kf_ex (b2_f c5)
    obtain ⟨hi, hke⟩ := kf_key hkf hnk
    refine g_iload_n C dX5_code_10 rfl 2 rfl ?_
    refine g_bipush (v := nI (32)) C dX5_code_11 (by decide) ?_
    refine g_icmp_lt (tgt := 23) C dX5_code_13 (by decide) (fun c13 => ?_) (fun c13 => ?_)
    · skip
      refine g_bipush (v := (-2 : Int32)) C dX5_code_23 (by decide) ?_
      refine g_asi (show (-2) = ((cdS nk ko ln msg os ov k bits).1) from (by unfold cdS; simp only [hkf, if_pos c13])) ?_
      exact g_iret C r rfl ⟨ln, os, frd, fbk, foh, fmk, frw, fot, rfl, rfl, rfl, rfl, by unfold cdS; simp only [hkf, if_pos c13]; exact ⟨trivial, trivial, hot⟩⟩ rfl nN dX5_code_25
    · skip
      refine g_iload_n C dX5_code_16 rfl 2 rfl ?_
      refine g_sipush (v := nI (128)) C dX5_code_17 (by decide) ?_
      refine g_icmp_le (tgt := 26) C dX5_code_20 (by decide) (fun c20 => ?_) (fun c20 => ?_)
      · skip
        obtain ⟨bi, hb1, hb2, hbi⟩ := bits_of c13 c20
        refine g_iconst (v := nI (0)) C dX5_code_26 (by decide) ?_
        refine g_istore_n (lv' := [(3, .int (nI (0))), (0, .ref mm), (1, .int (k)), (2, .int (bits))]) C dX5_code_27 rfl (by decide) rfl ?_
        have lp28 : ∀ (n28 : Nat) (n9 : Nat) (f1 : Nat → Int32), (n9 ≤ ln) → (pfx f1 msg n9) → ln + 1 ≤ n9 + n28 → G g muX5_code E A 0 0 Q [(mm, .inr (7, [.int (nI 0), .int (nI (nk)), .ref oc, .ref nx, .ref ia, .ref ms, .int (nI (ln)), .int (nI (os)), .ref ot, .long (tp), .ref my, .ref co, .ref bd, .ref bk, .ref oh, .ref rd, .ref mk, .ref rw, .ref ss])), (oc, aI E 272 (foc)), (rd, aI E 176 (frd)), (ss, aI E 256 (TB)), (bk, aI E 16 (fbk)), (oh, aI E 16 (foh)), (mk, aI E 16 (fmk)), (rw, aI E 320 (f1)), (ms, aI E 300 (msg)), (ot, aI E 16 (fot))] L F 28 [(0, .ref mm), (1, .int (k)), (2, .int (bits)), (3, .int (nI (n9)))] [] := by
          intro n28
          induction n28 with
          | zero => intro n9 f1 hn9 hf hfu28; exact absurd hfu28 (by omega)
          | succ n28 ih28 =>
            intro n9 f1 hn9 hf hfu28
            refine g_iload_n C dX5_code_28 rfl 3 rfl ?_
            refine g_aload_n C dX5_code_29 rfl 0 rfl ?_
            refine g_getX C 0 rfl rfl inX5 6 (by decide) m_426 rfl dX5_code_30 ?_
            refine g_nicmp_ge (tgt := 54) C dX5_code_33 (by decide) (by omega) (by omega) (fun c33 => ?_) (fun c33 => ?_)
            · skip
              have hf : pfx f1 msg ln := fun j hj => hf j (by omega)
              refine g_aload_n C dX5_code_54 rfl 0 rfl ?_
              refine g_bipush (v := nI (16)) C dX5_code_55 (by decide) ?_
              refine g_iload_n C dX5_code_57 rfl 1 rfl ?_
              refine g_asi (show (k) = (nI (i + 1)) from hke) ?_
              refine g_imul C dX5_code_58 ?_
              refine g_asi (pk_mul _ _) ?_
              refine g_aload_n C dX5_code_59 rfl 0 rfl ?_
              refine g_getX C 0 rfl rfl inX5 6 (by decide) m_426 rfl dX5_code_60 ?_
              refine g_callV (v := muX5_codeOf) (cx := [(mm, .inr (7, [.int (nI 0), .int (nI (nk)), .ref oc, .ref nx, .ref ia, .ref ms, .int (nI (ln)), .int (nI (os)), .ref ot, .long (tp), .ref my, .ref co, .ref bd, .ref bk, .ref oh, .ref rd, .ref mk, .ref rw, .ref ss])), (oc, aI E 272 (foc)), (rd, aI E 176 (frd)), (ss, aI E 256 (TB)), (bk, aI E 16 (fbk)), (oh, aI E 16 (foh)), (mk, aI E 16 (fmk)), (rw, aI E 320 (f1))]) C (k_X5_codeOf (gl g) E mm oc nx ia ms ot my co bd bk oh rd mk rw ss (nI 0) nk ln os tp foc frd fbk foh fmk f1 (ko i) msg (16 * (i + 1)) ln L F (by omega) (fun j hj => ((hMK.1 i hi).1 j hj).1) (fun j hj => ((hMK.1 i hi).1 j hj).2) (by omega) (fun j hj => hf j hj) (fun j hj => hmsg j (by omega))) [0, 1, 2, 3, 4, 5, 6, 7] rfl (by decide) 0 rfl rfl gi_X5_92 hd_X5_codeOf ⟨Nat.le_of_ble_eq_true rfl, Nat.le_of_ble_eq_true rfl⟩ rfl rfl (Nat.le_of_ble_eq_true rfl) ⟨Nat.le_of_ble_eq_true rfl, Nat.le_of_ble_eq_true rfl⟩ dX5_code_63 (fun r9 cx9 L9 F9 hp9 hf9 hN9 => ?_)
              obtain ⟨fh1, fm1, rfl, rfl, rfl, rfl, -⟩ := hp9
              show G g muX5_code E A 0 0 Q [(mm, .inr (7, [.int (nI 0), .int (nI (nk)), .ref oc, .ref nx, .ref ia, .ref ms, .int (nI (ln)), .int (nI (os)), .ref ot, .long (tp), .ref my, .ref co, .ref bd, .ref bk, .ref oh, .ref rd, .ref mk, .ref rw, .ref ss])), (oc, aI E 272 (foc)), (rd, aI E 176 (rk (ko i))), (ss, aI E 256 (TB)), (bk, aI E 16 (CMAC (ko i) msg ln)), (oh, aI E 16 (fh1)), (mk, aI E 16 (fm1)), (rw, aI E 320 (f1)), (ms, aI E 300 (msg)), (ot, aI E 16 (fot))] L F 66 [(0, .ref mm), (1, .int (k)), (2, .int (bits)), (3, .int (nI (n9)))] []
              refine g_aload_n C dX5_code_66 rfl 0 rfl ?_
              refine g_iload_n C dX5_code_67 rfl 2 rfl ?_
              refine g_asi (show (bits) = (nI (bi)) from hbi) ?_
              refine g_bipush (v := nI (7)) C dX5_code_68 (by decide) ?_
              refine g_iadd C dX5_code_70 ?_
              refine g_asi (nI_add _ _) ?_
              refine g_bipush (v := nI (8)) C dX5_code_71 (by decide) ?_
              refine g_idiv C dX5_code_73 (by decide) ?_
              refine g_asi (pk_div (by omega) (by decide) (by decide)) ?_
              refine g_callV (v := muX5_tell) (cx := [(mm, .inr (7, [.int (nI 0), .int (nI (nk)), .ref oc, .ref nx, .ref ia, .ref ms, .int (nI (ln)), .int (nI (os)), .ref ot, .long (tp), .ref my, .ref co, .ref bd, .ref bk, .ref oh, .ref rd, .ref mk, .ref rw, .ref ss])), (ot, aI E 16 (fot)), (bk, aI E 16 (CMAC (ko i) msg ln))]) C (k_X5_tell (gl g) E mm oc nx ia ms ot my co bd bk oh rd mk rw ss (nI 0) nk ln os tp fot (CMAC (ko i) msg ln) ((bi + 7) / 8) L F (by omega)) [0, 9, 4] rfl (by decide) 0 rfl rfl gi_X5_96 hd_X5_tell ⟨Nat.le_of_ble_eq_true rfl, Nat.le_of_ble_eq_true rfl⟩ rfl rfl (Nat.le_of_ble_eq_true rfl) ⟨Nat.le_of_ble_eq_true rfl, Nat.le_of_ble_eq_true rfl⟩ dX5_code_74 (fun r9 cx9 L9 F9 hp9 hf9 hN9 => ?_)
              obtain ⟨ft1, rfl, rfl, rfl, rfl, hft⟩ := hp9
              show G g muX5_code E A 0 0 Q [(mm, .inr (7, [.int (nI 0), .int (nI (nk)), .ref oc, .ref nx, .ref ia, .ref ms, .int (nI (0)), .int (nI (((bi + 7) / 8))), .ref ot, .long (tp), .ref my, .ref co, .ref bd, .ref bk, .ref oh, .ref rd, .ref mk, .ref rw, .ref ss])), (oc, aI E 272 (foc)), (rd, aI E 176 (rk (ko i))), (ss, aI E 256 (TB)), (bk, aI E 16 (CMAC (ko i) msg ln)), (oh, aI E 16 (fh1)), (mk, aI E 16 (fm1)), (rw, aI E 320 (f1)), (ms, aI E 300 (msg)), (ot, aI E 16 (ft1))] L F 77 [(0, .ref mm), (1, .int (k)), (2, .int (bits)), (3, .int (nI (n9)))] [.int (nI (((bi + 7) / 8)))]
              refine g_istore_n (lv' := [(3, .int (nI (((bi + 7) / 8)))), (0, .ref mm), (1, .int (k)), (2, .int (bits))]) C dX5_code_77 rfl (by decide) rfl ?_
              refine g_iload_n C dX5_code_78 rfl 3 rfl ?_
              refine g_asi (show (bits) = (nI (bi)) from hbi) ?_
              refine g_istore (lv' := [(4, .int (nI (bi))), (3, .int (nI (((bi + 7) / 8)))), (0, .ref mm), (1, .int (k)), (2, .int (bits))]) C dX5_code_79 (by decide) rfl ?_
              have lp81 : ∀ (n81 : Nat) (p : Nat) (f2 : Nat → Int32), (bi ≤ p) → (p ≤ 8 * ((bi + 7) / 8)) → (∀ j, j < (bi + 7) / 8 - 1 → f2 j = ft1 j) → (f2 ((bi + 7) / 8 - 1) = clS (ft1 ((bi + 7) / 8 - 1)) bi (p - bi)) → 8 * ((bi + 7) / 8) + 1 ≤ p + n81 → G g muX5_code E A 0 0 Q [(mm, .inr (7, [.int (nI 0), .int (nI (nk)), .ref oc, .ref nx, .ref ia, .ref ms, .int (nI (0)), .int (nI (((bi + 7) / 8))), .ref ot, .long (tp), .ref my, .ref co, .ref bd, .ref bk, .ref oh, .ref rd, .ref mk, .ref rw, .ref ss])), (oc, aI E 272 (foc)), (rd, aI E 176 (rk (ko i))), (ss, aI E 256 (TB)), (bk, aI E 16 (CMAC (ko i) msg ln)), (oh, aI E 16 (fh1)), (mk, aI E 16 (fm1)), (rw, aI E 320 (f1)), (ms, aI E 300 (msg)), (ot, aI E 16 (f2))] L F 81 [(0, .ref mm), (1, .int (k)), (2, .int (bits)), (3, .int (nI ((bi + 7) / 8))), (4, .int (nI (p)))] [] := by
                intro n81
                induction n81 with
                | zero => intro p f2 hp1 hp2 hf1 hf2 hfu81; exact absurd hfu81 (by omega)
                | succ n81 ih81 =>
                  intro p f2 hp1 hp2 hf1 hf2 hfu81
                  refine g_iload C dX5_code_81 4 rfl ?_
                  refine g_bipush (v := nI (8)) C dX5_code_83 (by decide) ?_
                  refine g_iload_n C dX5_code_85 rfl 3 rfl ?_
                  refine g_imul C dX5_code_86 ?_
                  refine g_asi (pk_mul _ _) ?_
                  refine g_nicmp_ge (tgt := 124) C dX5_code_87 (by decide) (by omega) (by omega) (fun c87 => ?_) (fun c87 => ?_)
                  · skip
                    refine g_iload_n C dX5_code_124 rfl 3 rfl ?_
                    refine g_asi (show (nI ((bi + 7) / 8)) = ((cdS nk ko ln msg os ov k bits).1) from (by unfold cdS; simp only [hkf, if_neg c13, if_pos c20]; rw [hbi, nI_clamp (by omega)])) ?_
                    exact g_iret C r rfl ⟨0, (bi + 7) / 8, rk (ko i), CMAC (ko i) msg ln, fh1, fm1, f1, f2, rfl, rfl, rfl, rfl, by unfold cdS; simp only [hkf, if_neg c13, if_pos c20]; rw [hbi, nI_clamp (by omega)]; exact ⟨trivial, rfl, codE hb1 hb2 (CMAC_O (fun q hq => ((hMK.1 i hi).1 q hq).2) (fun q hq => hmsg q (by omega))) hf1 hf2 (by omega) hft⟩⟩ rfl nN dX5_code_125
                  · skip
                    refine g_aload_n C dX5_code_90 rfl 0 rfl ?_
                    refine g_getX C 0 rfl rfl inX5 8 (by decide) m_428 rfl dX5_code_91 ?_
                    refine g_iload_n C dX5_code_94 rfl 3 rfl ?_
                    refine g_iconst (v := nI (1)) C dX5_code_95 (by decide) ?_
                    refine g_isub C dX5_code_96 ?_
                    refine g_asi (pk_sub (by omega)) ?_
                    refine g_aload_n C dX5_code_97 rfl 0 rfl ?_
                    refine g_getX C 0 rfl rfl inX5 8 (by decide) m_428 rfl dX5_code_98 ?_
                    refine g_iload_n C dX5_code_101 rfl 3 rfl ?_
                    refine g_iconst (v := nI (1)) C dX5_code_102 (by decide) ?_
                    refine g_isub C dX5_code_103 ?_
                    refine g_asi (pk_sub (by omega)) ?_
                    refine g_iald C 9 rfl (by omega) (by decide) dX5_code_104 ?_
                    refine g_sipush (v := nI (128)) C dX5_code_105 (by decide) ?_
                    refine g_iload C dX5_code_108 4 rfl ?_
                    refine g_bipush (v := nI (8)) C dX5_code_110 (by decide) ?_
                    refine g_irem C dX5_code_112 (by decide) ?_
                    refine g_asi (pk_rem (by omega) (by decide) (by decide)) ?_
                    refine g_ishr C dX5_code_113 ?_
                    refine g_iconst (v := (-1 : Int32)) C dX5_code_114 (by decide) ?_
                    refine g_ixor C dX5_code_115 ?_
                    refine g_iand C dX5_code_116 ?_
                    refine g_iast (X' := [(mm, .inr (7, [.int (nI 0), .int (nI (nk)), .ref oc, .ref nx, .ref ia, .ref ms, .int (nI (0)), .int (nI (((bi + 7) / 8))), .ref ot, .long (tp), .ref my, .ref co, .ref bd, .ref bk, .ref oh, .ref rd, .ref mk, .ref rw, .ref ss])), (oc, aI E 272 (foc)), (rd, aI E 176 (rk (ko i))), (ss, aI E 256 (TB)), (bk, aI E 16 (CMAC (ko i) msg ln)), (oh, aI E 16 (fh1)), (mk, aI E 16 (fm1)), (rw, aI E 320 (f1)), (ms, aI E 300 (msg)), (ot, aI E 16 (upd f2 (((bi + 7) / 8) - 1) ((f2 (((bi + 7) / 8) - 1)) &&& (((nI (128)) >>> ((nI (p % 8)) &&& 31)) ^^^ (-1)))))]) C 9 rfl (by omega) (by decide) rfl dX5_code_117 ?_
                    refine g_iinc (v := nI (p + 1)) (lv' := [(4, .int (nI (p + 1))), (0, .ref mm), (1, .int (k)), (2, .int (bits)), (3, .int (nI ((bi + 7) / 8)))]) C dX5_code_118 4 rfl (nI_inc _ 1) (by decide) rfl ?_
                    refine g_goto (tgt := 81) C dX5_code_121 (by decide) ?_
                    refine g_lv [1, 2, 3, 4, 0] rfl ?_
                    exact ih81 (p + 1) (upd f2 (((bi + 7) / 8) - 1) ((f2 (((bi + 7) / 8) - 1)) &&& (((nI (128)) >>> ((nI (p % 8)) &&& 31)) ^^^ (-1)))) (by omega) (by omega) ((codS hp1 hf1 hf2).1) ((codS hp1 hf1 hf2).2) (by omega)
              refine g_lv [2, 3, 4, 1, 0] rfl ?_
              exact lp81 (8 * ((bi + 7) / 8) + 1) bi ft1 (Nat.le_refl _) (by omega) (fun _ _ => rfl) (by rw [Nat.sub_self]; rfl) (by omega)
            · skip
              refine g_aload_n C dX5_code_36 rfl 0 rfl ?_
              refine g_getX C 0 rfl rfl inX5 17 (by decide) m_437 rfl dX5_code_37 ?_
              refine g_iload_n C dX5_code_40 rfl 3 rfl ?_
              refine g_aload_n C dX5_code_41 rfl 0 rfl ?_
              refine g_getX C 0 rfl rfl inX5 5 (by decide) m_425 rfl dX5_code_42 ?_
              refine g_iload_n C dX5_code_45 rfl 3 rfl ?_
              refine g_iald C 8 rfl (by omega) (by decide) dX5_code_46 ?_
              refine g_iast (X' := [(mm, .inr (7, [.int (nI 0), .int (nI (nk)), .ref oc, .ref nx, .ref ia, .ref ms, .int (nI (ln)), .int (nI (os)), .ref ot, .long (tp), .ref my, .ref co, .ref bd, .ref bk, .ref oh, .ref rd, .ref mk, .ref rw, .ref ss])), (oc, aI E 272 (foc)), (rd, aI E 176 (frd)), (ss, aI E 256 (TB)), (bk, aI E 16 (fbk)), (oh, aI E 16 (foh)), (mk, aI E 16 (fmk)), (rw, aI E 320 (upd f1 n9 (msg n9))), (ms, aI E 300 (msg)), (ot, aI E 16 (fot))]) C 7 rfl (by omega) (by decide) rfl dX5_code_47 ?_
              refine g_iinc (v := nI (n9 + 1)) (lv' := [(3, .int (nI (n9 + 1))), (0, .ref mm), (1, .int (k)), (2, .int (bits))]) C dX5_code_48 3 rfl (nI_inc _ 1) (by decide) rfl ?_
              refine g_goto (tgt := 28) C dX5_code_51 (by decide) ?_
              refine g_lv [1, 2, 3, 0] rfl ?_
              exact ih28 (n9 + 1) (upd f1 n9 (msg n9)) (by omega) (pfS hf rfl) (by omega)
        refine g_lv [1, 2, 3, 0] rfl ?_
        exact lp28 (ln + 1) 0 frw (Nat.zero_le _) pf0 (by omega)
      · skip
        refine g_bipush (v := (-2 : Int32)) C dX5_code_23 (by decide) ?_
        refine g_asi (show (-2) = ((cdS nk ko ln msg os ov k bits).1) from (by unfold cdS; simp only [hkf, if_neg c13, if_neg c20])) ?_
        exact g_iret C r rfl ⟨ln, os, frd, fbk, foh, fmk, frw, fot, rfl, rfl, rfl, rfl, by unfold cdS; simp only [hkf, if_neg c13, if_neg c20]; exact ⟨trivial, trivial, hot⟩⟩ rfl nN dX5_code_25
  · skip
    have hkf := kf_no (b2_t c5)
    refine g_iconst (v := (-1 : Int32)) C dX5_code_8 (by decide) ?_
    refine g_asi (show (-1) = ((cdS nk ko ln msg os ov k bits).1) from (by unfold cdS; simp only [hkf])) ?_
    exact g_iret C r rfl ⟨ln, os, frd, fbk, foh, fmk, frw, fot, rfl, rfl, rfl, rfl, by unfold cdS; simp only [hkf]; exact ⟨trivial, trivial, hot⟩⟩ rfl nN dX5_code_9
