theorem fl16 {n : Nat} : fl n < 16 ↔ (n = 0 ∨ ¬ n % 16 = 0) := by
  unfold fl
  split
  · rename_i h; exact ⟨fun _ => Or.inl h, fun _ => by omega⟩
  · rename_i h; omega
def en (n : Nat) : Nat := if fl n < 16 then n / 16 * 16 + 16 else n
theorem en_w {n : Nat} (h : ¬ fl n < 16) : en n = n ∧ 16 ≤ n ∧ n % 16 = 0 := by
  have := fl16 (n := n)
  unfold en
  rw [if_neg h]
  omega
theorem en_p {n : Nat} (h : fl n < 16) : en n = n / 16 * 16 + 16 := by unfold en; rw [if_pos h]
theorem en_ok (n : Nat) : 16 ≤ en n ∧ en n % 16 = 0 ∧ n ≤ en n ∧ en n ≤ n + 16 := by
  by_cases h : fl n < 16
  · rw [en_p h]; omega
  · have := en_w h; omega
def pv (M : Nat → Int32) (n p : Nat) : Int32 := if p < n then M p else if p = n then nI 128 else nI 0
def Bt (K M : Nat → Int32) (t : Nat) : Nat → Int32 := if t = 0 then (fun _ => nI 0) else ENC K (acc K M (16 * t))
def bS (K M : Nat → Int32) (n t : Nat) : Nat → Int32 := if t = 0 then (fun _ => nI 0) else if 16 * t = en n then CMAC K M n else ENC K (acc K M (16 * t))
def nbF (B M : Nat → Int32) (n : Nat) (sk : Nat → Int32) (t i : Nat) : Int32 := if 16 * t + 16 = en n then (B i ^^^ pv M n (16 * t + i)) ^^^ sk i else B i ^^^ pv M n (16 * t + i)
theorem upd_upd (f : Nat → Int32) (k : Nat) (x y : Int32) : upd (upd f k x) k y = upd f k y := by
  funext j
  unfold upd
  split <;> rfl
theorem acc_blk (K M : Nat → Int32) (t : Nat) : ∀ k, 1 ≤ k → k ≤ 16 → ∀ i, i < 16 → acc K M (16 * t + k) i = if i < k then Bt K M t i ^^^ M (16 * t + i) else Bt K M t i := by
  intro k
  induction k with
  | zero => intro h; omega
  | succ k ih =>
    intro _ hk i hi
    rw [← Nat.add_assoc, acc]
    by_cases h0 : k = 0
    · subst h0
      rw [Nat.add_zero]
      have hB : (if fl (16 * t) = 16 then ENC K (acc K M (16 * t)) else acc K M (16 * t)) = Bt K M t := by
        unfold Bt
        by_cases ht : t = 0
        · subst ht
          rfl
        · rw [if_neg ht, if_pos]
          have := fl_le (16 * t)
          have h2 := fl16 (n := 16 * t)
          omega
      rw [hB, show 16 * t % 16 = 0 by omega]
      by_cases e : i = 0
      · subst e
        rw [pk_us, if_pos (by omega), Nat.add_zero]
      · rw [pk_un e, if_neg (by omega)]
    · have hf : ¬ fl (16 * t + k) = 16 := by
        have h2 := fl16 (n := 16 * t + k)
        omega
      rw [if_neg hf, show (16 * t + k) % 16 = k by omega]
      by_cases e : i = k
      · subst e
        rw [pk_us, if_pos (by omega), ih (by omega) (by omega) i hi, if_neg (by omega)]
      · rw [pk_un e, ih (by omega) (by omega) i hi]
        by_cases h2 : i < k
        · rw [if_pos h2, if_pos (by omega)]
        · rw [if_neg h2, if_neg (by omega)]
theorem bS_Bt {K M : Nat → Int32} {n t : Nat} (h : 16 * t < en n) : bS K M n t = Bt K M t := by
  unfold bS Bt
  by_cases ht : t = 0
  · rw [if_pos ht, if_pos ht]
  · rw [if_neg ht, if_neg ht, if_neg (by omega)]
theorem nb_mid {K M : Nat → Int32} {n t : Nat} (sk : Nat → Int32) (h : 16 * t < en n) (hl : ¬ 16 * t + 16 = en n) : ∀ i, i < 16 → nbF (bS K M n t) M n sk t i = acc K M (16 * (t + 1)) i := by
  intro i hi
  have ho := en_ok n
  have hn : 16 * t + 16 ≤ n := by
    by_cases hf : fl n < 16
    · have := en_p hf; omega
    · have := en_w hf; omega
  unfold nbF pv
  rw [if_neg hl, bS_Bt h, if_pos (by omega), show 16 * (t + 1) = 16 * t + 16 by omega, acc_blk K M t 16 (by omega) (by omega) i hi, if_pos hi]
theorem nb_last {K M : Nat → Int32} {n t : Nat} (h : 16 * t < en n) (hl : 16 * t + 16 = en n) : ∀ i, i < 16 → nbF (bS K M n t) M n (skF K n) t i = (fun i => pad K M n i ^^^ skF K n i) i := by
  intro i hi
  unfold nbF
  rw [if_pos hl, bS_Bt h]
  show (Bt K M t i ^^^ pv M n (16 * t + i)) ^^^ skF K n i = pad K M n i ^^^ skF K n i
  congr 1
  unfold pad pv
  by_cases hf : fl n < 16
  · rw [if_pos hf]
    have hp := en_p hf
    have h16 := fl16.mp hf
    by_cases h0 : n = 0
    · subst h0
      obtain rfl : t = 0 := by omega
      rw [if_neg (by omega)]
      show Bt K M 0 i ^^^ _ = upd (fun _ => nI 0) 0 (nI 0 ^^^ nI 128) i
      by_cases e : i = 0
      · subst e
        rw [pk_us, if_pos (by omega)]
        rfl
      · rw [pk_un e, if_neg (by omega)]
        show nI 0 ^^^ nI 0 = nI 0
        decide
    · have hfl : fl n = n - 16 * t := by rw [← fl_lt hf]; omega
      have ha := acc_blk K M t (n - 16 * t) (by omega) (by omega)
      rw [show 16 * t + (n - 16 * t) = n by omega] at ha
      rw [hfl]
      by_cases e : i = n - 16 * t
      · rw [e, pk_us, if_neg (by omega), if_pos (by omega), ha _ (by omega), if_neg (by omega)]
      · rw [pk_un e, ha i hi]
        by_cases h2 : i < n - 16 * t
        · rw [if_pos h2, if_pos (by omega)]
        · rw [if_neg h2, if_neg (by omega), if_neg (by omega)]
          show _ ^^^ (0 : Int32) = _
          rw [Int32.xor_zero]
  · rw [if_neg hf]
    have hw := en_w hf
    have ha := acc_blk K M t 16 (by omega) (by omega) i hi
    rw [show 16 * t + 16 = n by omega, if_pos hi] at ha
    rw [if_pos (by omega), ha]
theorem acc_O {K M : Nat → Int32} (hK : ∀ i, i < 16 → isO (K i)) : ∀ n, (∀ j, j < n → isO (M j)) → ∀ i, i < 16 → isO (acc K M n i) := by
  intro n
  induction n with
  | zero => intro _ i _; exact isO_n (by decide)
  | succ n ih =>
    intro hM i hi
    have h0 := ih (fun j hj => hM j (by omega))
    have h1 : ∀ i, i < 16 → isO ((if fl n = 16 then ENC K (acc K M n) else acc K M n) i) := by
      intro i hi
      split
      · exact ENC_O hK h0 i hi
      · exact h0 i hi
    rw [acc]
    by_cases e : i = n % 16
    · rw [e, pk_us]; exact isO_xor (h1 _ (by omega)) (hM n (by omega))
    · rw [pk_un e]; exact h1 i hi
theorem zero_O : ∀ i, i < 16 → isO ((fun _ => nI 0 : Nat → Int32) i) := fun _ _ => isO_n (by decide)
theorem skF_O {K : Nat → Int32} (n : Nat) : ∀ i, i < 16 → isO (skF K n i) := by
  intro i hi
  unfold skF
  split <;> exact dblF_O _ i hi
theorem pad_O {K M : Nat → Int32} (hK : ∀ i, i < 16 → isO (K i)) {n : Nat} (hM : ∀ j, j < n → isO (M j)) : ∀ i, i < 16 → isO (pad K M n i) := by
  intro i hi
  have h0 := acc_O hK n hM
  unfold pad
  split
  · rename_i h
    by_cases e : i = fl n
    · rw [e, pk_us]; exact isO_xor (h0 _ h) (isO_n (by decide))
    · rw [pk_un e]; exact h0 i hi
  · exact h0 i hi
theorem CMAC_O {K M : Nat → Int32} (hK : ∀ i, i < 16 → isO (K i)) {n : Nat} (hM : ∀ j, j < n → isO (M j)) : ∀ i, i < 16 → isO (CMAC K M n i) := ENC_O hK (fun i hi => isO_xor (pad_O hK hM i hi) (skF_O n i hi))
theorem bS_s1 {K M : Nat → Int32} {n t : Nat} (hl : 16 * t + 16 = en n) : ∀ i, i < 16 → ENC K (fun i => pad K M n i ^^^ skF K n i) i = bS K M n (t + 1) i := fun i _ => by
  unfold bS
  rw [if_neg (by omega), if_pos (by omega)]
  rfl
theorem bS_s2 {K M : Nat → Int32} {n t : Nat} (hl : ¬ 16 * t + 16 = en n) : ∀ i, i < 16 → ENC K (acc K M (16 * (t + 1))) i = bS K M n (t + 1) i := fun i _ => by
  unfold bS
  rw [if_neg (by omega), if_neg (by omega)]
theorem bS_e {K M : Nat → Int32} {n t : Nat} (h : 16 * t = en n) : ∀ i, i < 16 → bS K M n t i = CMAC K M n i := fun i _ => by
  have := en_ok n
  unfold bS
  rw [if_neg (by omega), if_pos h]
theorem nb_n {n t : Nat} (h : 16 * t < en n) (hl : ¬ 16 * t + 16 = en n) : 16 * (t + 1) ≤ n := by
  have ho := en_ok n
  by_cases hf : fl n < 16
  · have := en_p hf; omega
  · have := en_w hf; omega
abbrev muX5_codeOf : Mu := (cX5_codeOf, 8, RX5, none, "codeOf", 3, 0, 0, 75)
theorem hd_X5_codeOf : yX5_codeOf.cls = RX5 ∧ yX5_codeOf.cls ≠ "java/lang/invoke/MethodHandle" ∧ yX5_codeOf.cls ≠ "java/lang/invoke/VarHandle" ∧ (parseMethodDescriptor yX5_codeOf.desc).map (fun d => d.parameters.length) = some 2 := by decide +kernel
set_option maxHeartbeats 4000000 in
set_option maxRecDepth 100000 in
theorem k_X5_codeOf (l : Launch) (E : Ev) (mm oc nx ia ms ot my co bd bk oh rd mk rw ss : Nat) (cd : Int32) (nk ln os : Nat) (tp : Int64) (foc frd fbk foh fmk frw K Mm : Nat → Int32) (bs n : Nat) (L : List Nat) (F : Nat → va_E) (hbs : bs + 16 ≤ 272) (hfc : ∀ i, i < 16 → foc (bs + i) = K i) (hK : ∀ i, i < 16 → isO (K i)) (hn : n ≤ 313) (hR : ∀ j, j < n → frw j = Mm j) (hM : ∀ j, j < n → isO (Mm j)) : KC l E yX5_codeOf muX5_codeOf [.ref mm, .int (nI (bs)), .int (nI (n))] [(mm, .inr (7, [.int (cd), .int (nI (nk)), .ref oc, .ref nx, .ref ia, .ref ms, .int (nI (ln)), .int (nI (os)), .ref ot, .long (tp), .ref my, .ref co, .ref bd, .ref bk, .ref oh, .ref rd, .ref mk, .ref rw, .ref ss])), (oc, aI E 272 (foc)), (rd, aI E 176 (frd)), (ss, aI E 256 (TB)), (bk, aI E 16 (fbk)), (oh, aI E 16 (foh)), (mk, aI E 16 (fmk)), (rw, aI E 320 (frw))] L F (fun r8 cx8 L8 F8 => ∃ (foh1 fmk1 : Nat → Int32), r8 = none ∧ cx8 = [(mm, .inr (7, [.int (cd), .int (nI (nk)), .ref oc, .ref nx, .ref ia, .ref ms, .int (nI (ln)), .int (nI (os)), .ref ot, .long (tp), .ref my, .ref co, .ref bd, .ref bk, .ref oh, .ref rd, .ref mk, .ref rw, .ref ss])), (oc, aI E 272 (foc)), (rd, aI E 176 (rk K)), (ss, aI E 256 (TB)), (bk, aI E 16 (CMAC K Mm n)), (oh, aI E 16 (foh1)), (mk, aI E 16 (fmk1)), (rw, aI E 320 (frw))] ∧ L = L8 ∧ F = F8 ∧ (True)) := by
  refine K_start (by decide) rfl rfl (Nat.le_of_ble_eq_true rfl) (fun g A Q hgl C r => ?_)
  subst hgl
  show G g muX5_codeOf E A 0 0 Q [(mm, .inr (7, [.int (cd), .int (nI (nk)), .ref oc, .ref nx, .ref ia, .ref ms, .int (nI (ln)), .int (nI (os)), .ref ot, .long (tp), .ref my, .ref co, .ref bd, .ref bk, .ref oh, .ref rd, .ref mk, .ref rw, .ref ss])), (oc, aI E 272 (foc)), (rd, aI E 176 (frd)), (ss, aI E 256 (TB)), (bk, aI E 16 (fbk)), (oh, aI E 16 (foh)), (mk, aI E 16 (fmk)), (rw, aI E 320 (frw))] L F 0 [(0, .ref mm), (1, .int (nI (bs))), (2, .int (nI (n)))] []
  have hen := en_ok n
  refine g_iconst (v := nI (0)) C dX5_codeOf_0 (by decide) ?_
  refine g_istore_n (lv' := [(3, .int (nI (0))), (0, .ref mm), (1, .int (nI (bs))), (2, .int (nI (n)))]) C dX5_codeOf_1 rfl (by decide) rfl ?_
  have lp2 : ∀ (n2 : Nat) (i : Nat) (f1 : Nat → Int32), (i ≤ 16) → (pfx f1 (fun _ => nI 0) i) → 17 ≤ i + n2 → G g muX5_codeOf E A 0 0 Q [(mm, .inr (7, [.int (cd), .int (nI (nk)), .ref oc, .ref nx, .ref ia, .ref ms, .int (nI (ln)), .int (nI (os)), .ref ot, .long (tp), .ref my, .ref co, .ref bd, .ref bk, .ref oh, .ref rd, .ref mk, .ref rw, .ref ss])), (oc, aI E 272 (foc)), (rd, aI E 176 (frd)), (ss, aI E 256 (TB)), (bk, aI E 16 (f1)), (oh, aI E 16 (foh)), (mk, aI E 16 (fmk)), (rw, aI E 320 (frw))] L F 2 [(0, .ref mm), (1, .int (nI (bs))), (2, .int (nI (n))), (3, .int (nI (i)))] [] := by
    intro n2
    induction n2 with
    | zero => intro i f1 hi hf hfu2; exact absurd hfu2 (by omega)
    | succ n2 ih2 =>
      intro i f1 hi hf hfu2
      refine g_iload_n C dX5_codeOf_2 rfl 3 rfl ?_
      refine g_bipush (v := nI (16)) C dX5_codeOf_3 (by decide) ?_
      refine g_nicmp_ge (tgt := 21) C dX5_codeOf_5 (by decide) (by omega) (by omega) (fun c5 => ?_) (fun c5 => ?_)
      · skip
        refine g_cgI (f' := fun _ => nI 0) (X' := [(mm, .inr (7, [.int (cd), .int (nI (nk)), .ref oc, .ref nx, .ref ia, .ref ms, .int (nI (ln)), .int (nI (os)), .ref ot, .long (tp), .ref my, .ref co, .ref bd, .ref bk, .ref oh, .ref rd, .ref mk, .ref rw, .ref ss])), (oc, aI E 272 (foc)), (rd, aI E 176 (frd)), (ss, aI E 256 (TB)), (bk, aI E 16 (fun _ => nI 0)), (oh, aI E 16 (foh)), (mk, aI E 16 (fmk)), (rw, aI E 320 (frw))]) 4 rfl (fun j hj => hf j (by omega)) rfl ?_
        refine g_aload_n C dX5_codeOf_21 rfl 0 rfl ?_
        refine g_iload_n C dX5_codeOf_22 rfl 1 rfl ?_
        refine g_callV (v := muX5_cipher) (cx := [(mm, .inr (7, [.int (cd), .int (nI (nk)), .ref oc, .ref nx, .ref ia, .ref ms, .int (nI (ln)), .int (nI (os)), .ref ot, .long (tp), .ref my, .ref co, .ref bd, .ref bk, .ref oh, .ref rd, .ref mk, .ref rw, .ref ss])), (oc, aI E 272 (foc)), (rd, aI E 176 (frd)), (ss, aI E 256 (TB)), (bk, aI E 16 (fun _ => nI 0)), (oh, aI E 16 (foh))]) C (k_X5_cipher (gl g) E mm oc nx ia ms ot my co bd bk oh rd mk rw ss cd nk ln os tp foc frd (fun _ => nI 0) foh K bs L F hbs hfc hK zero_O) [0, 1, 2, 3, 4, 5] rfl (by decide) 0 rfl rfl gi_X5_76 hd_X5_cipher ⟨Nat.le_of_ble_eq_true rfl, Nat.le_of_ble_eq_true rfl⟩ rfl rfl (Nat.le_of_ble_eq_true rfl) ⟨Nat.le_of_ble_eq_true rfl, Nat.le_of_ble_eq_true rfl⟩ dX5_codeOf_23 (fun r9 cx9 L9 F9 hp9 hf9 hN9 => ?_)
        obtain ⟨fh1, rfl, rfl, rfl, rfl, -⟩ := hp9
        show G g muX5_codeOf E A 0 0 Q [(mm, .inr (7, [.int (cd), .int (nI (nk)), .ref oc, .ref nx, .ref ia, .ref ms, .int (nI (ln)), .int (nI (os)), .ref ot, .long (tp), .ref my, .ref co, .ref bd, .ref bk, .ref oh, .ref rd, .ref mk, .ref rw, .ref ss])), (oc, aI E 272 (foc)), (rd, aI E 176 (rk K)), (ss, aI E 256 (TB)), (bk, aI E 16 (ENC K (fun _ => nI 0))), (oh, aI E 16 (fh1)), (mk, aI E 16 (fmk)), (rw, aI E 320 (frw))] L F 26 [(0, .ref mm), (1, .int (nI (bs))), (2, .int (nI (n))), (3, .int (nI (i)))] []
        refine g_iconst (v := nI (0)) C dX5_codeOf_26 (by decide) ?_
        refine g_istore_n (lv' := [(3, .int (nI (0))), (0, .ref mm), (1, .int (nI (bs))), (2, .int (nI (n)))]) C dX5_codeOf_27 rfl (by decide) rfl ?_
        have lp28 : ∀ (n28 : Nat) (i : Nat) (f1 : Nat → Int32), (i ≤ 16) → (pfx f1 (ENC K (fun _ => nI 0)) i) → 17 ≤ i + n28 → G g muX5_codeOf E A 0 0 Q [(mm, .inr (7, [.int (cd), .int (nI (nk)), .ref oc, .ref nx, .ref ia, .ref ms, .int (nI (ln)), .int (nI (os)), .ref ot, .long (tp), .ref my, .ref co, .ref bd, .ref bk, .ref oh, .ref rd, .ref mk, .ref rw, .ref ss])), (oc, aI E 272 (foc)), (rd, aI E 176 (rk K)), (ss, aI E 256 (TB)), (bk, aI E 16 (ENC K (fun _ => nI 0))), (oh, aI E 16 (fh1)), (mk, aI E 16 (f1)), (rw, aI E 320 (frw))] L F 28 [(0, .ref mm), (1, .int (nI (bs))), (2, .int (nI (n))), (3, .int (nI (i)))] [] := by
          intro n28
          induction n28 with
          | zero => intro i f1 hi hf hfu28; exact absurd hfu28 (by omega)
          | succ n28 ih28 =>
            intro i f1 hi hf hfu28
            refine g_iload_n C dX5_codeOf_28 rfl 3 rfl ?_
            refine g_bipush (v := nI (16)) C dX5_codeOf_29 (by decide) ?_
            refine g_nicmp_ge (tgt := 52) C dX5_codeOf_31 (by decide) (by omega) (by omega) (fun c31 => ?_) (fun c31 => ?_)
            · skip
              refine g_cgI (f' := ENC K (fun _ => nI 0)) (X' := [(mm, .inr (7, [.int (cd), .int (nI (nk)), .ref oc, .ref nx, .ref ia, .ref ms, .int (nI (ln)), .int (nI (os)), .ref ot, .long (tp), .ref my, .ref co, .ref bd, .ref bk, .ref oh, .ref rd, .ref mk, .ref rw, .ref ss])), (oc, aI E 272 (foc)), (rd, aI E 176 (rk K)), (ss, aI E 256 (TB)), (bk, aI E 16 (ENC K (fun _ => nI 0))), (oh, aI E 16 (fh1)), (mk, aI E 16 (ENC K (fun _ => nI 0))), (rw, aI E 320 (frw))]) 6 rfl (fun j hj => hf j (by omega)) rfl ?_
              refine g_aload_n C dX5_codeOf_52 rfl 0 rfl ?_
              refine g_callV (v := muX5_doubled) (cx := [(mm, .inr (7, [.int (cd), .int (nI (nk)), .ref oc, .ref nx, .ref ia, .ref ms, .int (nI (ln)), .int (nI (os)), .ref ot, .long (tp), .ref my, .ref co, .ref bd, .ref bk, .ref oh, .ref rd, .ref mk, .ref rw, .ref ss])), (mk, aI E 16 (ENC K (fun _ => nI 0)))]) C (k_X5_doubled (gl g) E mm oc nx ia ms ot my co bd bk oh rd mk rw ss cd nk ln os tp (ENC K (fun _ => nI 0)) L F (ENC_O hK zero_O)) [0, 6] rfl (by decide) 0 rfl rfl gi_X5_79 hd_X5_doubled ⟨Nat.le_of_ble_eq_true rfl, Nat.le_of_ble_eq_true rfl⟩ rfl rfl (Nat.le_of_ble_eq_true rfl) ⟨Nat.le_of_ble_eq_true rfl, Nat.le_of_ble_eq_true rfl⟩ dX5_codeOf_53 (fun r9 cx9 L9 F9 hp9 hf9 hN9 => ?_)
              obtain ⟨rfl, rfl, rfl, rfl, -⟩ := hp9
              show G g muX5_codeOf E A 0 0 Q [(mm, .inr (7, [.int (cd), .int (nI (nk)), .ref oc, .ref nx, .ref ia, .ref ms, .int (nI (ln)), .int (nI (os)), .ref ot, .long (tp), .ref my, .ref co, .ref bd, .ref bk, .ref oh, .ref rd, .ref mk, .ref rw, .ref ss])), (oc, aI E 272 (foc)), (rd, aI E 176 (rk K)), (ss, aI E 256 (TB)), (bk, aI E 16 (ENC K (fun _ => nI 0))), (oh, aI E 16 (fh1)), (mk, aI E 16 (dblF (ENC K (fun _ => nI 0)))), (rw, aI E 320 (frw))] L F 56 [(0, .ref mm), (1, .int (nI (bs))), (2, .int (nI (n))), (3, .int (nI (i)))] []
              refine g_iload_n C dX5_codeOf_56 rfl 2 rfl ?_
              have jn101 : G g muX5_codeOf E A 0 0 Q [(mm, .inr (7, [.int (cd), .int (nI (nk)), .ref oc, .ref nx, .ref ia, .ref ms, .int (nI (ln)), .int (nI (os)), .ref ot, .long (tp), .ref my, .ref co, .ref bd, .ref bk, .ref oh, .ref rd, .ref mk, .ref rw, .ref ss])), (oc, aI E 272 (foc)), (rd, aI E 176 (rk K)), (ss, aI E 256 (TB)), (bk, aI E 16 (ENC K (fun _ => nI 0))), (oh, aI E 16 (fh1)), (mk, aI E 16 (skF K n)), (rw, aI E 320 (frw))] L F 101 [(0, .ref mm), (1, .int (nI (bs))), (2, .int (nI (n))), (4, .int (nI (en n)))] [] := by
                refine g_iconst (v := nI (0)) C dX5_codeOf_101 (by decide) ?_
                refine g_istore (lv' := [(5, .int (nI (0))), (0, .ref mm), (1, .int (nI (bs))), (2, .int (nI (n))), (4, .int (nI (en n)))]) C dX5_codeOf_102 (by decide) rfl ?_
                have lp104 : ∀ (n104 : Nat) (i : Nat) (f1 : Nat → Int32), (i ≤ 16) → (pfx f1 (fun _ => nI 0) i) → 17 ≤ i + n104 → G g muX5_codeOf E A 0 0 Q [(mm, .inr (7, [.int (cd), .int (nI (nk)), .ref oc, .ref nx, .ref ia, .ref ms, .int (nI (ln)), .int (nI (os)), .ref ot, .long (tp), .ref my, .ref co, .ref bd, .ref bk, .ref oh, .ref rd, .ref mk, .ref rw, .ref ss])), (oc, aI E 272 (foc)), (rd, aI E 176 (rk K)), (ss, aI E 256 (TB)), (bk, aI E 16 (f1)), (oh, aI E 16 (fh1)), (mk, aI E 16 (skF K n)), (rw, aI E 320 (frw))] L F 104 [(0, .ref mm), (1, .int (nI (bs))), (2, .int (nI (n))), (4, .int (nI (en n))), (5, .int (nI (i)))] [] := by
                  intro n104
                  induction n104 with
                  | zero => intro i f1 hi hf hfu104; exact absurd hfu104 (by omega)
                  | succ n104 ih104 =>
                    intro i f1 hi hf hfu104
                    refine g_iload C dX5_codeOf_104 4 rfl ?_
                    refine g_bipush (v := nI (16)) C dX5_codeOf_106 (by decide) ?_
                    refine g_nicmp_ge (tgt := 125) C dX5_codeOf_108 (by decide) (by omega) (by omega) (fun c108 => ?_) (fun c108 => ?_)
                    · skip
                      refine g_cgI (f' := bS K Mm n 0) (X' := [(mm, .inr (7, [.int (cd), .int (nI (nk)), .ref oc, .ref nx, .ref ia, .ref ms, .int (nI (ln)), .int (nI (os)), .ref ot, .long (tp), .ref my, .ref co, .ref bd, .ref bk, .ref oh, .ref rd, .ref mk, .ref rw, .ref ss])), (oc, aI E 272 (foc)), (rd, aI E 176 (rk K)), (ss, aI E 256 (TB)), (bk, aI E 16 (bS K Mm n 0)), (oh, aI E 16 (fh1)), (mk, aI E 16 (skF K n)), (rw, aI E 320 (frw))]) 4 rfl (fun j hj => hf j (by omega)) rfl ?_
                      refine g_iconst (v := nI (0)) C dX5_codeOf_125 (by decide) ?_
                      refine g_istore (lv' := [(5, .int (nI (0))), (0, .ref mm), (1, .int (nI (bs))), (2, .int (nI (n))), (4, .int (nI (en n)))]) C dX5_codeOf_126 (by decide) rfl ?_
                      have lp128 : ∀ (n128 : Nat) (t : Nat) (fh : Nat → Int32), (16 * t ≤ en n) → en n + 16 ≤ 16 * t + 16 * n128 → G g muX5_codeOf E A 0 0 Q [(mm, .inr (7, [.int (cd), .int (nI (nk)), .ref oc, .ref nx, .ref ia, .ref ms, .int (nI (ln)), .int (nI (os)), .ref ot, .long (tp), .ref my, .ref co, .ref bd, .ref bk, .ref oh, .ref rd, .ref mk, .ref rw, .ref ss])), (oc, aI E 272 (foc)), (rd, aI E 176 (rk K)), (ss, aI E 256 (TB)), (bk, aI E 16 (bS K Mm n t)), (oh, aI E 16 (fh)), (mk, aI E 16 (skF K n)), (rw, aI E 320 (frw))] L F 128 [(0, .ref mm), (1, .int (nI (bs))), (2, .int (nI (n))), (4, .int (nI (en n))), (5, .int (nI (16 * t)))] [] := by
                        intro n128
                        induction n128 with
                        | zero => intro t fh ht hfu128; exact absurd hfu128 (by omega)
                        | succ n128 ih128 =>
                          intro t fh ht hfu128
                          refine g_iload C dX5_codeOf_128 4 rfl ?_
                          refine g_iload C dX5_codeOf_130 3 rfl ?_
                          refine g_nicmp_ge (tgt := 251) C dX5_codeOf_132 (by decide) (by omega) (by omega) (fun c132 => ?_) (fun c132 => ?_)
                          · skip
                            refine g_cgI (f' := CMAC K Mm n) (X' := [(mm, .inr (7, [.int (cd), .int (nI (nk)), .ref oc, .ref nx, .ref ia, .ref ms, .int (nI (ln)), .int (nI (os)), .ref ot, .long (tp), .ref my, .ref co, .ref bd, .ref bk, .ref oh, .ref rd, .ref mk, .ref rw, .ref ss])), (oc, aI E 272 (foc)), (rd, aI E 176 (rk K)), (ss, aI E 256 (TB)), (bk, aI E 16 (CMAC K Mm n)), (oh, aI E 16 (fh)), (mk, aI E 16 (skF K n)), (rw, aI E 320 (frw))]) 4 rfl (bS_e (by omega)) rfl ?_
                            exact g_vret C r rfl ⟨fh, skF K n, rfl, rfl, rfl, rfl, trivial⟩ rfl nN dX5_codeOf_251
                          · skip
                            refine g_iconst (v := nI (0)) C dX5_codeOf_135 (by decide) ?_
                            refine g_istore (lv' := [(6, .int (nI (0))), (0, .ref mm), (1, .int (nI (bs))), (2, .int (nI (n))), (4, .int (nI (en n))), (5, .int (nI (16 * t)))]) C dX5_codeOf_136 (by decide) rfl ?_
                            have lp138 : ∀ (n138 : Nat) (k : Nat) (fb : Nat → Int32), (k ≤ 16) → (mpF fb (nbF (bS K Mm n t) Mm n (skF K n) t) (bS K Mm n t) k 16) → 17 ≤ k + n138 → G g muX5_codeOf E A 0 0 Q [(mm, .inr (7, [.int (cd), .int (nI (nk)), .ref oc, .ref nx, .ref ia, .ref ms, .int (nI (ln)), .int (nI (os)), .ref ot, .long (tp), .ref my, .ref co, .ref bd, .ref bk, .ref oh, .ref rd, .ref mk, .ref rw, .ref ss])), (oc, aI E 272 (foc)), (rd, aI E 176 (rk K)), (ss, aI E 256 (TB)), (bk, aI E 16 (fb)), (oh, aI E 16 (fh)), (mk, aI E 16 (skF K n)), (rw, aI E 320 (frw))] L F 138 [(0, .ref mm), (1, .int (nI (bs))), (2, .int (nI (n))), (4, .int (nI (en n))), (5, .int (nI (16 * t))), (6, .int (nI (k)))] [] := by
                              intro n138
                              induction n138 with
                              | zero => intro k fb hk hf hfu138; exact absurd hfu138 (by omega)
                              | succ n138 ih138 =>
                                intro k fb hk hf hfu138
                                refine g_iload C dX5_codeOf_138 5 rfl ?_
                                refine g_bipush (v := nI (16)) C dX5_codeOf_140 (by decide) ?_
                                refine g_nicmp_ge (tgt := 240) C dX5_codeOf_142 (by decide) (by omega) (by omega) (fun c142 => ?_) (fun c142 => ?_)
                                · skip
                                  by_cases hl : 16 * t + 16 = en n
                                  · skip
                                    have hcc : 16 * t < en n := by omega
                                    refine g_cgI (f' := fun i => pad K Mm n i ^^^ skF K n i) (X' := [(mm, .inr (7, [.int (cd), .int (nI (nk)), .ref oc, .ref nx, .ref ia, .ref ms, .int (nI (ln)), .int (nI (os)), .ref ot, .long (tp), .ref my, .ref co, .ref bd, .ref bk, .ref oh, .ref rd, .ref mk, .ref rw, .ref ss])), (oc, aI E 272 (foc)), (rd, aI E 176 (rk K)), (ss, aI E 256 (TB)), (bk, aI E 16 (fun i => pad K Mm n i ^^^ skF K n i)), (oh, aI E 16 (fh)), (mk, aI E 16 (skF K n)), (rw, aI E 320 (frw))]) 4 rfl (fun j hj => (mpE hf c142 j hj).trans (nb_last hcc hl j hj)) rfl ?_
                                    refine g_aload_n C dX5_codeOf_240 rfl 0 rfl ?_
                                    refine g_iload_n C dX5_codeOf_241 rfl 1 rfl ?_
                                    refine g_callV (v := muX5_cipher) (cx := [(mm, .inr (7, [.int (cd), .int (nI (nk)), .ref oc, .ref nx, .ref ia, .ref ms, .int (nI (ln)), .int (nI (os)), .ref ot, .long (tp), .ref my, .ref co, .ref bd, .ref bk, .ref oh, .ref rd, .ref mk, .ref rw, .ref ss])), (oc, aI E 272 (foc)), (rd, aI E 176 (rk K)), (ss, aI E 256 (TB)), (bk, aI E 16 (fun i => pad K Mm n i ^^^ skF K n i)), (oh, aI E 16 (fh))]) C (k_X5_cipher (gl g) E mm oc nx ia ms ot my co bd bk oh rd mk rw ss cd nk ln os tp foc (rk K) (fun i => pad K Mm n i ^^^ skF K n i) fh K bs L F hbs hfc hK ((fun i hi => isO_xor (pad_O hK hM i hi) (skF_O n i hi)))) [0, 1, 2, 3, 4, 5] rfl (by decide) 0 rfl rfl gi_X5_76 hd_X5_cipher ⟨Nat.le_of_ble_eq_true rfl, Nat.le_of_ble_eq_true rfl⟩ rfl rfl (Nat.le_of_ble_eq_true rfl) ⟨Nat.le_of_ble_eq_true rfl, Nat.le_of_ble_eq_true rfl⟩ dX5_codeOf_242 (fun r9 cx9 L9 F9 hp9 hf9 hN9 => ?_)
                                    obtain ⟨fh2, rfl, rfl, rfl, rfl, -⟩ := hp9
                                    show G g muX5_codeOf E A 0 0 Q [(mm, .inr (7, [.int (cd), .int (nI (nk)), .ref oc, .ref nx, .ref ia, .ref ms, .int (nI (ln)), .int (nI (os)), .ref ot, .long (tp), .ref my, .ref co, .ref bd, .ref bk, .ref oh, .ref rd, .ref mk, .ref rw, .ref ss])), (oc, aI E 272 (foc)), (rd, aI E 176 (rk K)), (ss, aI E 256 (TB)), (bk, aI E 16 (ENC K (fun i => pad K Mm n i ^^^ skF K n i))), (oh, aI E 16 (fh2)), (mk, aI E 16 (skF K n)), (rw, aI E 320 (frw))] L F 245 [(0, .ref mm), (1, .int (nI (bs))), (2, .int (nI (n))), (4, .int (nI (en n))), (5, .int (nI (16 * t))), (6, .int (nI (k)))] []
                                    refine g_cgI (f' := bS K Mm n (t + 1)) (X' := [(mm, .inr (7, [.int (cd), .int (nI (nk)), .ref oc, .ref nx, .ref ia, .ref ms, .int (nI (ln)), .int (nI (os)), .ref ot, .long (tp), .ref my, .ref co, .ref bd, .ref bk, .ref oh, .ref rd, .ref mk, .ref rw, .ref ss])), (oc, aI E 272 (foc)), (rd, aI E 176 (rk K)), (ss, aI E 256 (TB)), (bk, aI E 16 (bS K Mm n (t + 1))), (oh, aI E 16 (fh2)), (mk, aI E 16 (skF K n)), (rw, aI E 320 (frw))]) 4 rfl (bS_s1 hl) rfl ?_
                                    refine g_iinc (v := nI (16 * (t + 1))) (lv' := [(5, .int (nI (16 * (t + 1)))), (0, .ref mm), (1, .int (nI (bs))), (2, .int (nI (n))), (4, .int (nI (en n))), (6, .int (nI (k)))]) C dX5_codeOf_245 4 rfl (nI_inc _ 16) (by decide) rfl ?_
                                    refine g_goto (tgt := 128) C dX5_codeOf_248 (by decide) ?_
                                    refine g_lv [1, 2, 3, 4, 0] rfl ?_
                                    exact ih128 (t + 1) fh2 (by omega) (by omega)
                                  · skip
                                    have hcc : 16 * t < en n := by omega
                                    refine g_cgI (f' := acc K Mm (16 * (t + 1))) (X' := [(mm, .inr (7, [.int (cd), .int (nI (nk)), .ref oc, .ref nx, .ref ia, .ref ms, .int (nI (ln)), .int (nI (os)), .ref ot, .long (tp), .ref my, .ref co, .ref bd, .ref bk, .ref oh, .ref rd, .ref mk, .ref rw, .ref ss])), (oc, aI E 272 (foc)), (rd, aI E 176 (rk K)), (ss, aI E 256 (TB)), (bk, aI E 16 (acc K Mm (16 * (t + 1)))), (oh, aI E 16 (fh)), (mk, aI E 16 (skF K n)), (rw, aI E 320 (frw))]) 4 rfl (fun j hj => (mpE hf c142 j hj).trans (nb_mid _ hcc hl j hj)) rfl ?_
                                    refine g_aload_n C dX5_codeOf_240 rfl 0 rfl ?_
                                    refine g_iload_n C dX5_codeOf_241 rfl 1 rfl ?_
                                    refine g_callV (v := muX5_cipher) (cx := [(mm, .inr (7, [.int (cd), .int (nI (nk)), .ref oc, .ref nx, .ref ia, .ref ms, .int (nI (ln)), .int (nI (os)), .ref ot, .long (tp), .ref my, .ref co, .ref bd, .ref bk, .ref oh, .ref rd, .ref mk, .ref rw, .ref ss])), (oc, aI E 272 (foc)), (rd, aI E 176 (rk K)), (ss, aI E 256 (TB)), (bk, aI E 16 (acc K Mm (16 * (t + 1)))), (oh, aI E 16 (fh))]) C (k_X5_cipher (gl g) E mm oc nx ia ms ot my co bd bk oh rd mk rw ss cd nk ln os tp foc (rk K) (acc K Mm (16 * (t + 1))) fh K bs L F hbs hfc hK (acc_O hK _ (fun j hj => hM j (by have := nb_n hcc hl; omega)))) [0, 1, 2, 3, 4, 5] rfl (by decide) 0 rfl rfl gi_X5_76 hd_X5_cipher ⟨Nat.le_of_ble_eq_true rfl, Nat.le_of_ble_eq_true rfl⟩ rfl rfl (Nat.le_of_ble_eq_true rfl) ⟨Nat.le_of_ble_eq_true rfl, Nat.le_of_ble_eq_true rfl⟩ dX5_codeOf_242 (fun r9 cx9 L9 F9 hp9 hf9 hN9 => ?_)
                                    obtain ⟨fh2, rfl, rfl, rfl, rfl, -⟩ := hp9
                                    show G g muX5_codeOf E A 0 0 Q [(mm, .inr (7, [.int (cd), .int (nI (nk)), .ref oc, .ref nx, .ref ia, .ref ms, .int (nI (ln)), .int (nI (os)), .ref ot, .long (tp), .ref my, .ref co, .ref bd, .ref bk, .ref oh, .ref rd, .ref mk, .ref rw, .ref ss])), (oc, aI E 272 (foc)), (rd, aI E 176 (rk K)), (ss, aI E 256 (TB)), (bk, aI E 16 (ENC K (acc K Mm (16 * (t + 1))))), (oh, aI E 16 (fh2)), (mk, aI E 16 (skF K n)), (rw, aI E 320 (frw))] L F 245 [(0, .ref mm), (1, .int (nI (bs))), (2, .int (nI (n))), (4, .int (nI (en n))), (5, .int (nI (16 * t))), (6, .int (nI (k)))] []
                                    refine g_cgI (f' := bS K Mm n (t + 1)) (X' := [(mm, .inr (7, [.int (cd), .int (nI (nk)), .ref oc, .ref nx, .ref ia, .ref ms, .int (nI (ln)), .int (nI (os)), .ref ot, .long (tp), .ref my, .ref co, .ref bd, .ref bk, .ref oh, .ref rd, .ref mk, .ref rw, .ref ss])), (oc, aI E 272 (foc)), (rd, aI E 176 (rk K)), (ss, aI E 256 (TB)), (bk, aI E 16 (bS K Mm n (t + 1))), (oh, aI E 16 (fh2)), (mk, aI E 16 (skF K n)), (rw, aI E 320 (frw))]) 4 rfl (bS_s2 hl) rfl ?_
                                    refine g_iinc (v := nI (16 * (t + 1))) (lv' := [(5, .int (nI (16 * (t + 1)))), (0, .ref mm), (1, .int (nI (bs))), (2, .int (nI (n))), (4, .int (nI (en n))), (6, .int (nI (k)))]) C dX5_codeOf_245 4 rfl (nI_inc _ 16) (by decide) rfl ?_
                                    refine g_goto (tgt := 128) C dX5_codeOf_248 (by decide) ?_
                                    refine g_lv [1, 2, 3, 4, 0] rfl ?_
                                    exact ih128 (t + 1) fh2 (by omega) (by omega)
                                · skip
                                  refine g_iload C dX5_codeOf_145 4 rfl ?_
                                  refine g_iload C dX5_codeOf_147 5 rfl ?_
                                  refine g_iadd C dX5_codeOf_149 ?_
                                  refine g_asi (nI_add _ _) ?_
                                  refine g_iload_n C dX5_codeOf_150 rfl 2 rfl ?_
                                  have jn183 : G g muX5_codeOf E A 0 0 Q [(mm, .inr (7, [.int (cd), .int (nI (nk)), .ref oc, .ref nx, .ref ia, .ref ms, .int (nI (ln)), .int (nI (os)), .ref ot, .long (tp), .ref my, .ref co, .ref bd, .ref bk, .ref oh, .ref rd, .ref mk, .ref rw, .ref ss])), (oc, aI E 272 (foc)), (rd, aI E 176 (rk K)), (ss, aI E 256 (TB)), (bk, aI E 16 (fb)), (oh, aI E 16 (fh)), (mk, aI E 16 (skF K n)), (rw, aI E 320 (frw))] L F 183 [(0, .ref mm), (1, .int (nI (bs))), (2, .int (nI (n))), (4, .int (nI (en n))), (5, .int (nI (16 * t))), (6, .int (nI (k)))] [.int (pv Mm n (16 * t + k))] := by
                                    refine g_istore (lv' := [(7, .int (pv Mm n (16 * t + k))), (0, .ref mm), (1, .int (nI (bs))), (2, .int (nI (n))), (4, .int (nI (en n))), (5, .int (nI (16 * t))), (6, .int (nI (k)))]) C dX5_codeOf_183 (by decide) rfl ?_
                                    refine g_aload_n C dX5_codeOf_185 rfl 1 rfl ?_
                                    refine g_getX C 0 rfl rfl inX5 13 (by decide) m_433 rfl dX5_codeOf_186 ?_
                                    refine g_iload C dX5_codeOf_189 6 rfl ?_
                                    refine g_aload_n C dX5_codeOf_191 rfl 1 rfl ?_
                                    refine g_getX C 0 rfl rfl inX5 13 (by decide) m_433 rfl dX5_codeOf_192 ?_
                                    refine g_iload C dX5_codeOf_195 6 rfl ?_
                                    refine g_iald C 4 rfl (by omega) (by decide) dX5_codeOf_197 ?_
                                    refine g_iload C dX5_codeOf_198 0 rfl ?_
                                    refine g_ixor C dX5_codeOf_200 ?_
                                    refine g_iast (X' := [(mm, .inr (7, [.int (cd), .int (nI (nk)), .ref oc, .ref nx, .ref ia, .ref ms, .int (nI (ln)), .int (nI (os)), .ref ot, .long (tp), .ref my, .ref co, .ref bd, .ref bk, .ref oh, .ref rd, .ref mk, .ref rw, .ref ss])), (oc, aI E 272 (foc)), (rd, aI E 176 (rk K)), (ss, aI E 256 (TB)), (bk, aI E 16 (upd fb k ((fb k) ^^^ (pv Mm n (16 * t + k))))), (oh, aI E 16 (fh)), (mk, aI E 16 (skF K n)), (rw, aI E 320 (frw))]) C 4 rfl (by omega) (by decide) rfl dX5_codeOf_201 ?_
                                    refine g_iload C dX5_codeOf_202 5 rfl ?_
                                    refine g_bipush (v := nI (16)) C dX5_codeOf_204 (by decide) ?_
                                    refine g_iadd C dX5_codeOf_206 ?_
                                    refine g_asi (nI_add _ _) ?_
                                    refine g_iload C dX5_codeOf_207 4 rfl ?_
                                    refine g_nicmp_ne (tgt := 234) C dX5_codeOf_209 (by decide) (by omega) (by omega) (fun c209 => ?_) (fun c209 => ?_)
                                    · skip
                                      refine g_iinc (v := nI (k + 1)) (lv' := [(6, .int (nI (k + 1))), (7, .int (pv Mm n (16 * t + k))), (0, .ref mm), (1, .int (nI (bs))), (2, .int (nI (n))), (4, .int (nI (en n))), (5, .int (nI (16 * t)))]) C dX5_codeOf_234 6 rfl (nI_inc _ 1) (by decide) rfl ?_
                                      refine g_goto (tgt := 138) C dX5_codeOf_237 (by decide) ?_
                                      refine g_lv [2, 3, 4, 5, 6, 0] rfl ?_
                                      exact ih138 (k + 1) (upd fb k ((fb k) ^^^ (pv Mm n (16 * t + k)))) (by omega) (mpS hf (by rw [mpR hf c142 (Nat.le_refl k)]; unfold nbF; rw [if_neg c209])) (by omega)
                                    · skip
                                      refine g_aload_n C dX5_codeOf_212 rfl 1 rfl ?_
                                      refine g_getX C 0 rfl rfl inX5 13 (by decide) m_433 rfl dX5_codeOf_213 ?_
                                      refine g_iload C dX5_codeOf_216 6 rfl ?_
                                      refine g_aload_n C dX5_codeOf_218 rfl 1 rfl ?_
                                      refine g_getX C 0 rfl rfl inX5 13 (by decide) m_433 rfl dX5_codeOf_219 ?_
                                      refine g_iload C dX5_codeOf_222 6 rfl ?_
                                      refine g_iald C 4 rfl (by omega) (by decide) dX5_codeOf_224 ?_
                                      refine g_aload_n C dX5_codeOf_225 rfl 1 rfl ?_
                                      refine g_getX C 0 rfl rfl inX5 16 (by decide) m_436 rfl dX5_codeOf_226 ?_
                                      refine g_iload C dX5_codeOf_229 6 rfl ?_
                                      refine g_iald C 6 rfl (by omega) (by decide) dX5_codeOf_231 ?_
                                      refine g_ixor C dX5_codeOf_232 ?_
                                      refine g_iast (X' := [(mm, .inr (7, [.int (cd), .int (nI (nk)), .ref oc, .ref nx, .ref ia, .ref ms, .int (nI (ln)), .int (nI (os)), .ref ot, .long (tp), .ref my, .ref co, .ref bd, .ref bk, .ref oh, .ref rd, .ref mk, .ref rw, .ref ss])), (oc, aI E 272 (foc)), (rd, aI E 176 (rk K)), (ss, aI E 256 (TB)), (bk, aI E 16 (upd (upd fb k ((fb k) ^^^ (pv Mm n (16 * t + k)))) k (((upd fb k ((fb k) ^^^ (pv Mm n (16 * t + k)))) k) ^^^ ((skF K n) k)))), (oh, aI E 16 (fh)), (mk, aI E 16 (skF K n)), (rw, aI E 320 (frw))]) C 4 rfl (by omega) (by decide) rfl dX5_codeOf_233 ?_
                                      refine g_iinc (v := nI (k + 1)) (lv' := [(6, .int (nI (k + 1))), (7, .int (pv Mm n (16 * t + k))), (0, .ref mm), (1, .int (nI (bs))), (2, .int (nI (n))), (4, .int (nI (en n))), (5, .int (nI (16 * t)))]) C dX5_codeOf_234 6 rfl (nI_inc _ 1) (by decide) rfl ?_
                                      refine g_goto (tgt := 138) C dX5_codeOf_237 (by decide) ?_
                                      refine g_lv [2, 3, 4, 5, 6, 0] rfl ?_
                                      exact ih138 (k + 1) (upd (upd fb k ((fb k) ^^^ (pv Mm n (16 * t + k)))) k (((upd fb k ((fb k) ^^^ (pv Mm n (16 * t + k)))) k) ^^^ ((skF K n) k))) (by omega) (by rw [upd_upd]; exact mpS hf (by rw [pk_us, mpR hf c142 (Nat.le_refl k)]; unfold nbF; rw [if_pos c209])) (by omega)
                                  refine g_nicmp_ge (tgt := 167) C dX5_codeOf_151 (by decide) (by omega) (by omega) (fun c151 => ?_) (fun c151 => ?_)
                                  · skip
                                    refine g_iload C dX5_codeOf_167 4 rfl ?_
                                    refine g_iload C dX5_codeOf_169 5 rfl ?_
                                    refine g_iadd C dX5_codeOf_171 ?_
                                    refine g_asi (nI_add _ _) ?_
                                    refine g_iload_n C dX5_codeOf_172 rfl 2 rfl ?_
                                    refine g_nicmp_ne (tgt := 182) C dX5_codeOf_173 (by decide) (by omega) (by omega) (fun c173 => ?_) (fun c173 => ?_)
                                    · skip
                                      refine g_iconst (v := nI (0)) C dX5_codeOf_182 (by decide) ?_
                                      refine g_asi (show (nI (0)) = (pv Mm n (16 * t + k)) from (by unfold pv; rw [if_neg (by omega), if_neg c173])) ?_
                                      exact jn183 
                                    · skip
                                      refine g_sipush (v := nI (128)) C dX5_codeOf_176 (by decide) ?_
                                      refine g_asi (show (nI (128)) = (pv Mm n (16 * t + k)) from (by unfold pv; rw [if_neg (by omega), if_pos c173])) ?_
                                      refine g_goto (tgt := 183) C dX5_codeOf_179 (by decide) ?_
                                      exact jn183 
                                  · skip
                                    refine g_aload_n C dX5_codeOf_154 rfl 0 rfl ?_
                                    refine g_getX C 0 rfl rfl inX5 17 (by decide) m_437 rfl dX5_codeOf_155 ?_
                                    refine g_iload C dX5_codeOf_158 4 rfl ?_
                                    refine g_iload C dX5_codeOf_160 5 rfl ?_
                                    refine g_iadd C dX5_codeOf_162 ?_
                                    refine g_asi (nI_add _ _) ?_
                                    refine g_iald C 7 rfl (by omega) (by decide) dX5_codeOf_163 ?_
                                    refine g_asi (show (frw ((16 * t) + k)) = (pv Mm n (16 * t + k)) from (by unfold pv; rw [if_pos c151]; exact hR _ c151)) ?_
                                    refine g_goto (tgt := 183) C dX5_codeOf_164 (by decide) ?_
                                    exact jn183 
                            refine g_lv [1, 2, 3, 4, 5, 0] rfl ?_
                            exact lp138 17 0 (bS K Mm n t) (Nat.zero_le _) mp0 (by omega)
                      refine g_lv [1, 2, 3, 4, 0] rfl ?_
                      exact lp128 (en n) 0 fh1 (Nat.zero_le _) (by omega)
                    · skip
                      refine g_aload_n C dX5_codeOf_111 rfl 0 rfl ?_
                      refine g_getX C 0 rfl rfl inX5 13 (by decide) m_433 rfl dX5_codeOf_112 ?_
                      refine g_iload C dX5_codeOf_115 4 rfl ?_
                      refine g_iconst (v := nI (0)) C dX5_codeOf_117 (by decide) ?_
                      refine g_iast (X' := [(mm, .inr (7, [.int (cd), .int (nI (nk)), .ref oc, .ref nx, .ref ia, .ref ms, .int (nI (ln)), .int (nI (os)), .ref ot, .long (tp), .ref my, .ref co, .ref bd, .ref bk, .ref oh, .ref rd, .ref mk, .ref rw, .ref ss])), (oc, aI E 272 (foc)), (rd, aI E 176 (rk K)), (ss, aI E 256 (TB)), (bk, aI E 16 (upd f1 i (nI (0)))), (oh, aI E 16 (fh1)), (mk, aI E 16 (skF K n)), (rw, aI E 320 (frw))]) C 4 rfl (by omega) (by decide) rfl dX5_codeOf_118 ?_
                      refine g_iinc (v := nI (i + 1)) (lv' := [(5, .int (nI (i + 1))), (0, .ref mm), (1, .int (nI (bs))), (2, .int (nI (n))), (4, .int (nI (en n)))]) C dX5_codeOf_119 4 rfl (nI_inc _ 1) (by decide) rfl ?_
                      refine g_goto (tgt := 104) C dX5_codeOf_122 (by decide) ?_
                      refine g_lv [1, 2, 3, 4, 0] rfl ?_
                      exact ih104 (i + 1) (upd f1 i (nI (0))) (by omega) (pfS hf rfl) (by omega)
                refine g_lv [1, 2, 3, 4, 0] rfl ?_
                exact lp104 17 0 (ENC K (fun _ => nI 0)) (Nat.zero_le _) pf0 (by omega)
              refine g_nif_le (tgt := 71) C dX5_codeOf_57 (by decide) (by omega) (fun c57 => ?_) (fun c57 => ?_)
              · skip
                refine g_iconst (v := nI (0)) C dX5_codeOf_71 (by decide) ?_
                refine g_istore_n (lv' := [(3, .int (nI (0))), (0, .ref mm), (1, .int (nI (bs))), (2, .int (nI (n)))]) C dX5_codeOf_72 rfl (by decide) rfl ?_
                refine g_iload_n C dX5_codeOf_73 rfl 0 rfl ?_
                refine g_nif_ne (tgt := 81) C dX5_codeOf_74 (by decide) (by omega) (fun c74 => ?_) (fun c74 => ?_)
                · skip
                  exact absurd rfl c74
                · skip
                  refine g_aload_n C dX5_codeOf_77 rfl 1 rfl ?_
                  refine g_callV (v := muX5_doubled) (cx := [(mm, .inr (7, [.int (cd), .int (nI (nk)), .ref oc, .ref nx, .ref ia, .ref ms, .int (nI (ln)), .int (nI (os)), .ref ot, .long (tp), .ref my, .ref co, .ref bd, .ref bk, .ref oh, .ref rd, .ref mk, .ref rw, .ref ss])), (mk, aI E 16 (dblF (ENC K (fun _ => nI 0))))]) C (k_X5_doubled (gl g) E mm oc nx ia ms ot my co bd bk oh rd mk rw ss cd nk ln os tp (dblF (ENC K (fun _ => nI 0))) L F (dblF_O _)) [0, 6] rfl (by decide) 0 rfl rfl gi_X5_79 hd_X5_doubled ⟨Nat.le_of_ble_eq_true rfl, Nat.le_of_ble_eq_true rfl⟩ rfl rfl (Nat.le_of_ble_eq_true rfl) ⟨Nat.le_of_ble_eq_true rfl, Nat.le_of_ble_eq_true rfl⟩ dX5_codeOf_78 (fun r9 cx9 L9 F9 hp9 hf9 hN9 => ?_)
                  obtain ⟨rfl, rfl, rfl, rfl, -⟩ := hp9
                  show G g muX5_codeOf E A 0 0 Q [(mm, .inr (7, [.int (cd), .int (nI (nk)), .ref oc, .ref nx, .ref ia, .ref ms, .int (nI (ln)), .int (nI (os)), .ref ot, .long (tp), .ref my, .ref co, .ref bd, .ref bk, .ref oh, .ref rd, .ref mk, .ref rw, .ref ss])), (oc, aI E 272 (foc)), (rd, aI E 176 (rk K)), (ss, aI E 256 (TB)), (bk, aI E 16 (ENC K (fun _ => nI 0))), (oh, aI E 16 (fh1)), (mk, aI E 16 (dblF (dblF (ENC K (fun _ => nI 0))))), (rw, aI E 320 (frw))] L F 81 [(3, .int (nI (0))), (0, .ref mm), (1, .int (nI (bs))), (2, .int (nI (n)))] []
                  refine g_iload_n C dX5_codeOf_81 rfl 0 rfl ?_
                  refine g_nif_eq (tgt := 89) C dX5_codeOf_82 (by decide) (by omega) (fun c82 => ?_) (fun c82 => ?_)
                  · skip
                    refine g_iload_n C dX5_codeOf_89 rfl 3 rfl ?_
                    refine g_bipush (v := nI (16)) C dX5_codeOf_90 (by decide) ?_
                    refine g_idiv C dX5_codeOf_92 (by decide) ?_
                    refine g_asi (pk_div (by omega) (by decide) (by decide)) ?_
                    refine g_bipush (v := nI (16)) C dX5_codeOf_93 (by decide) ?_
                    refine g_imul C dX5_codeOf_95 ?_
                    refine g_asi (pk_mul _ _) ?_
                    refine g_bipush (v := nI (16)) C dX5_codeOf_96 (by decide) ?_
                    refine g_iadd C dX5_codeOf_98 ?_
                    refine g_asi (nI_add _ _) ?_
                    refine g_asi (show (nI (((n / 16) * 16) + 16)) = (nI (en n)) from (by rw [en_p (fl16.mpr (by omega))])) ?_
                    refine g_istore (lv' := [(4, .int (nI (en n))), (3, .int (nI (0))), (0, .ref mm), (1, .int (nI (bs))), (2, .int (nI (n)))]) C dX5_codeOf_99 (by decide) rfl ?_
                    refine g_cgI (f' := skF K n) (X' := [(mm, .inr (7, [.int (cd), .int (nI (nk)), .ref oc, .ref nx, .ref ia, .ref ms, .int (nI (ln)), .int (nI (os)), .ref ot, .long (tp), .ref my, .ref co, .ref bd, .ref bk, .ref oh, .ref rd, .ref mk, .ref rw, .ref ss])), (oc, aI E 272 (foc)), (rd, aI E 176 (rk K)), (ss, aI E 256 (TB)), (bk, aI E 16 (ENC K (fun _ => nI 0))), (oh, aI E 16 (fh1)), (mk, aI E 16 (skF K n)), (rw, aI E 320 (frw))]) 6 rfl (fun i _ => by unfold skF; rw [if_pos (fl16.mpr (by omega))]) rfl ?_
                    refine g_lv [2, 3, 4, 0] rfl ?_
                    exact jn101 
                  · skip
                    exact absurd rfl c82
              · skip
                refine g_iload_n C dX5_codeOf_60 rfl 2 rfl ?_
                refine g_bipush (v := nI (16)) C dX5_codeOf_61 (by decide) ?_
                refine g_irem C dX5_codeOf_63 (by decide) ?_
                refine g_asi (pk_rem (by omega) (by decide) (by decide)) ?_
                refine g_nif_ne (tgt := 71) C dX5_codeOf_64 (by decide) (by omega) (fun c64 => ?_) (fun c64 => ?_)
                · skip
                  refine g_iconst (v := nI (0)) C dX5_codeOf_71 (by decide) ?_
                  refine g_istore_n (lv' := [(3, .int (nI (0))), (0, .ref mm), (1, .int (nI (bs))), (2, .int (nI (n)))]) C dX5_codeOf_72 rfl (by decide) rfl ?_
                  refine g_iload_n C dX5_codeOf_73 rfl 0 rfl ?_
                  refine g_nif_ne (tgt := 81) C dX5_codeOf_74 (by decide) (by omega) (fun c74 => ?_) (fun c74 => ?_)
                  · skip
                    exact absurd rfl c74
                  · skip
                    refine g_aload_n C dX5_codeOf_77 rfl 1 rfl ?_
                    refine g_callV (v := muX5_doubled) (cx := [(mm, .inr (7, [.int (cd), .int (nI (nk)), .ref oc, .ref nx, .ref ia, .ref ms, .int (nI (ln)), .int (nI (os)), .ref ot, .long (tp), .ref my, .ref co, .ref bd, .ref bk, .ref oh, .ref rd, .ref mk, .ref rw, .ref ss])), (mk, aI E 16 (dblF (ENC K (fun _ => nI 0))))]) C (k_X5_doubled (gl g) E mm oc nx ia ms ot my co bd bk oh rd mk rw ss cd nk ln os tp (dblF (ENC K (fun _ => nI 0))) L F (dblF_O _)) [0, 6] rfl (by decide) 0 rfl rfl gi_X5_79 hd_X5_doubled ⟨Nat.le_of_ble_eq_true rfl, Nat.le_of_ble_eq_true rfl⟩ rfl rfl (Nat.le_of_ble_eq_true rfl) ⟨Nat.le_of_ble_eq_true rfl, Nat.le_of_ble_eq_true rfl⟩ dX5_codeOf_78 (fun r9 cx9 L9 F9 hp9 hf9 hN9 => ?_)
                    obtain ⟨rfl, rfl, rfl, rfl, -⟩ := hp9
                    show G g muX5_codeOf E A 0 0 Q [(mm, .inr (7, [.int (cd), .int (nI (nk)), .ref oc, .ref nx, .ref ia, .ref ms, .int (nI (ln)), .int (nI (os)), .ref ot, .long (tp), .ref my, .ref co, .ref bd, .ref bk, .ref oh, .ref rd, .ref mk, .ref rw, .ref ss])), (oc, aI E 272 (foc)), (rd, aI E 176 (rk K)), (ss, aI E 256 (TB)), (bk, aI E 16 (ENC K (fun _ => nI 0))), (oh, aI E 16 (fh1)), (mk, aI E 16 (dblF (dblF (ENC K (fun _ => nI 0))))), (rw, aI E 320 (frw))] L F 81 [(3, .int (nI (0))), (0, .ref mm), (1, .int (nI (bs))), (2, .int (nI (n)))] []
                    refine g_iload_n C dX5_codeOf_81 rfl 0 rfl ?_
                    refine g_nif_eq (tgt := 89) C dX5_codeOf_82 (by decide) (by omega) (fun c82 => ?_) (fun c82 => ?_)
                    · skip
                      refine g_iload_n C dX5_codeOf_89 rfl 3 rfl ?_
                      refine g_bipush (v := nI (16)) C dX5_codeOf_90 (by decide) ?_
                      refine g_idiv C dX5_codeOf_92 (by decide) ?_
                      refine g_asi (pk_div (by omega) (by decide) (by decide)) ?_
                      refine g_bipush (v := nI (16)) C dX5_codeOf_93 (by decide) ?_
                      refine g_imul C dX5_codeOf_95 ?_
                      refine g_asi (pk_mul _ _) ?_
                      refine g_bipush (v := nI (16)) C dX5_codeOf_96 (by decide) ?_
                      refine g_iadd C dX5_codeOf_98 ?_
                      refine g_asi (nI_add _ _) ?_
                      refine g_asi (show (nI (((n / 16) * 16) + 16)) = (nI (en n)) from (by rw [en_p (fl16.mpr (by omega))])) ?_
                      refine g_istore (lv' := [(4, .int (nI (en n))), (3, .int (nI (0))), (0, .ref mm), (1, .int (nI (bs))), (2, .int (nI (n)))]) C dX5_codeOf_99 (by decide) rfl ?_
                      refine g_cgI (f' := skF K n) (X' := [(mm, .inr (7, [.int (cd), .int (nI (nk)), .ref oc, .ref nx, .ref ia, .ref ms, .int (nI (ln)), .int (nI (os)), .ref ot, .long (tp), .ref my, .ref co, .ref bd, .ref bk, .ref oh, .ref rd, .ref mk, .ref rw, .ref ss])), (oc, aI E 272 (foc)), (rd, aI E 176 (rk K)), (ss, aI E 256 (TB)), (bk, aI E 16 (ENC K (fun _ => nI 0))), (oh, aI E 16 (fh1)), (mk, aI E 16 (skF K n)), (rw, aI E 320 (frw))]) 6 rfl (fun i _ => by unfold skF; rw [if_pos (fl16.mpr (by omega))]) rfl ?_
                      refine g_lv [2, 3, 4, 0] rfl ?_
                      exact jn101 
                    · skip
                      exact absurd rfl c82
                · skip
                  refine g_iconst (v := nI (1)) C dX5_codeOf_67 (by decide) ?_
                  refine g_goto (tgt := 72) C dX5_codeOf_68 (by decide) ?_
                  refine g_istore_n (lv' := [(3, .int (nI (1))), (0, .ref mm), (1, .int (nI (bs))), (2, .int (nI (n)))]) C dX5_codeOf_72 rfl (by decide) rfl ?_
                  refine g_iload_n C dX5_codeOf_73 rfl 0 rfl ?_
                  refine g_nif_ne (tgt := 81) C dX5_codeOf_74 (by decide) (by omega) (fun c74 => ?_) (fun c74 => ?_)
                  · skip
                    refine g_iload_n C dX5_codeOf_81 rfl 0 rfl ?_
                    refine g_nif_eq (tgt := 89) C dX5_codeOf_82 (by decide) (by omega) (fun c82 => ?_) (fun c82 => ?_)
                    · skip
                      exact absurd c82 (by omega)
                    · skip
                      refine g_iload_n C dX5_codeOf_85 rfl 3 rfl ?_
                      refine g_asi (show (nI (n)) = (nI (en n)) from (by rw [(en_w (fun z => by have := fl16.mp z; omega)).1])) ?_
                      refine g_goto (tgt := 99) C dX5_codeOf_86 (by decide) ?_
                      refine g_istore (lv' := [(4, .int (nI (en n))), (3, .int (nI (1))), (0, .ref mm), (1, .int (nI (bs))), (2, .int (nI (n)))]) C dX5_codeOf_99 (by decide) rfl ?_
                      refine g_cgI (f' := skF K n) (X' := [(mm, .inr (7, [.int (cd), .int (nI (nk)), .ref oc, .ref nx, .ref ia, .ref ms, .int (nI (ln)), .int (nI (os)), .ref ot, .long (tp), .ref my, .ref co, .ref bd, .ref bk, .ref oh, .ref rd, .ref mk, .ref rw, .ref ss])), (oc, aI E 272 (foc)), (rd, aI E 176 (rk K)), (ss, aI E 256 (TB)), (bk, aI E 16 (ENC K (fun _ => nI 0))), (oh, aI E 16 (fh1)), (mk, aI E 16 (skF K n)), (rw, aI E 320 (frw))]) 6 rfl (fun i _ => by unfold skF; rw [if_neg (fun z => by have := fl16.mp z; omega)]) rfl ?_
                      refine g_lv [2, 3, 4, 0] rfl ?_
                      exact jn101 
                  · skip
                    exact absurd c74 (by omega)
            · skip
              refine g_aload_n C dX5_codeOf_34 rfl 0 rfl ?_
              refine g_getX C 0 rfl rfl inX5 16 (by decide) m_436 rfl dX5_codeOf_35 ?_
              refine g_iload_n C dX5_codeOf_38 rfl 3 rfl ?_
              refine g_aload_n C dX5_codeOf_39 rfl 0 rfl ?_
              refine g_getX C 0 rfl rfl inX5 13 (by decide) m_433 rfl dX5_codeOf_40 ?_
              refine g_iload_n C dX5_codeOf_43 rfl 3 rfl ?_
              refine g_iald C 4 rfl (by omega) (by decide) dX5_codeOf_44 ?_
              refine g_iast (X' := [(mm, .inr (7, [.int (cd), .int (nI (nk)), .ref oc, .ref nx, .ref ia, .ref ms, .int (nI (ln)), .int (nI (os)), .ref ot, .long (tp), .ref my, .ref co, .ref bd, .ref bk, .ref oh, .ref rd, .ref mk, .ref rw, .ref ss])), (oc, aI E 272 (foc)), (rd, aI E 176 (rk K)), (ss, aI E 256 (TB)), (bk, aI E 16 (ENC K (fun _ => nI 0))), (oh, aI E 16 (fh1)), (mk, aI E 16 (upd f1 i ((ENC K (fun _ => nI 0)) i))), (rw, aI E 320 (frw))]) C 6 rfl (by omega) (by decide) rfl dX5_codeOf_45 ?_
              refine g_iinc (v := nI (i + 1)) (lv' := [(3, .int (nI (i + 1))), (0, .ref mm), (1, .int (nI (bs))), (2, .int (nI (n)))]) C dX5_codeOf_46 3 rfl (nI_inc _ 1) (by decide) rfl ?_
              refine g_goto (tgt := 28) C dX5_codeOf_49 (by decide) ?_
              refine g_lv [1, 2, 3, 0] rfl ?_
              exact ih28 (i + 1) (upd f1 i ((ENC K (fun _ => nI 0)) i)) (by omega) (pfS hf rfl) (by omega)
        refine g_lv [1, 2, 3, 0] rfl ?_
        exact lp28 17 0 fmk (Nat.zero_le _) pf0 (by omega)
      · skip
        refine g_aload_n C dX5_codeOf_8 rfl 0 rfl ?_
        refine g_getX C 0 rfl rfl inX5 13 (by decide) m_433 rfl dX5_codeOf_9 ?_
        refine g_iload_n C dX5_codeOf_12 rfl 3 rfl ?_
        refine g_iconst (v := nI (0)) C dX5_codeOf_13 (by decide) ?_
        refine g_iast (X' := [(mm, .inr (7, [.int (cd), .int (nI (nk)), .ref oc, .ref nx, .ref ia, .ref ms, .int (nI (ln)), .int (nI (os)), .ref ot, .long (tp), .ref my, .ref co, .ref bd, .ref bk, .ref oh, .ref rd, .ref mk, .ref rw, .ref ss])), (oc, aI E 272 (foc)), (rd, aI E 176 (frd)), (ss, aI E 256 (TB)), (bk, aI E 16 (upd f1 i (nI (0)))), (oh, aI E 16 (foh)), (mk, aI E 16 (fmk)), (rw, aI E 320 (frw))]) C 4 rfl (by omega) (by decide) rfl dX5_codeOf_14 ?_
        refine g_iinc (v := nI (i + 1)) (lv' := [(3, .int (nI (i + 1))), (0, .ref mm), (1, .int (nI (bs))), (2, .int (nI (n)))]) C dX5_codeOf_15 3 rfl (nI_inc _ 1) (by decide) rfl ?_
        refine g_goto (tgt := 2) C dX5_codeOf_18 (by decide) ?_
        refine g_lv [1, 2, 3, 0] rfl ?_
        exact ih2 (i + 1) (upd f1 i (nI (0))) (by omega) (pfS hf rfl) (by omega)
  refine g_lv [1, 2, 3, 0] rfl ?_
  exact lp2 17 0 fbk (Nat.zero_le _) pf0 (by omega)
abbrev muX5_tell : Mu := (cX5_tell, 3, RX5, (some .int), "tell", 0, 0, 0, 0)
theorem hd_X5_tell : yX5_tell.cls = RX5 ∧ yX5_tell.cls ≠ "java/lang/invoke/MethodHandle" ∧ yX5_tell.cls ≠ "java/lang/invoke/VarHandle" ∧ (parseMethodDescriptor yX5_tell.desc).map (fun d => d.parameters.length) = some 1 := by decide +kernel
set_option maxHeartbeats 4000000 in
set_option maxRecDepth 100000 in
theorem k_X5_tell (l : Launch) (E : Ev) (mm oc nx ia ms ot my co bd bk oh rd mk rw ss : Nat) (cd : Int32) (nk ln os : Nat) (tp : Int64) (fot fbk : Nat → Int32) (n : Nat) (L : List Nat) (F : Nat → va_E) (hn : n ≤ 16) : KC l E yX5_tell muX5_tell [.ref mm, .int (nI (n))] [(mm, .inr (7, [.int (cd), .int (nI (nk)), .ref oc, .ref nx, .ref ia, .ref ms, .int (nI (ln)), .int (nI (os)), .ref ot, .long (tp), .ref my, .ref co, .ref bd, .ref bk, .ref oh, .ref rd, .ref mk, .ref rw, .ref ss])), (ot, aI E 16 (fot)), (bk, aI E 16 (fbk))] L F (fun r8 cx8 L8 F8 => ∃ (fot1 : Nat → Int32), r8 = some (.int (nI (n))) ∧ cx8 = [(mm, .inr (7, [.int (cd), .int (nI (nk)), .ref oc, .ref nx, .ref ia, .ref ms, .int (nI (0)), .int (nI (n)), .ref ot, .long (tp), .ref my, .ref co, .ref bd, .ref bk, .ref oh, .ref rd, .ref mk, .ref rw, .ref ss])), (ot, aI E 16 (fot1)), (bk, aI E 16 (fbk))] ∧ L = L8 ∧ F = F8 ∧ (pfx fot1 fbk n)) := by
  refine K_start (by decide) rfl rfl (Nat.le_of_ble_eq_true rfl) (fun g A Q hgl C r => ?_)
  subst hgl
  show G g muX5_tell E A 0 0 Q [(mm, .inr (7, [.int (cd), .int (nI (nk)), .ref oc, .ref nx, .ref ia, .ref ms, .int (nI (ln)), .int (nI (os)), .ref ot, .long (tp), .ref my, .ref co, .ref bd, .ref bk, .ref oh, .ref rd, .ref mk, .ref rw, .ref ss])), (ot, aI E 16 (fot)), (bk, aI E 16 (fbk))] L F 0 [(0, .ref mm), (1, .int (nI (n)))] []
  refine g_iconst (v := nI (0)) C dX5_tell_0 (by decide) ?_
  refine g_istore_n (lv' := [(2, .int (nI (0))), (0, .ref mm), (1, .int (nI (n)))]) C dX5_tell_1 rfl (by decide) rfl ?_
  have lp2 : ∀ (n2 : Nat) (i : Nat) (f1 : Nat → Int32), (i ≤ n) → (pfx f1 fbk i) → n + 1 ≤ i + n2 → G g muX5_tell E A 0 0 Q [(mm, .inr (7, [.int (cd), .int (nI (nk)), .ref oc, .ref nx, .ref ia, .ref ms, .int (nI (ln)), .int (nI (os)), .ref ot, .long (tp), .ref my, .ref co, .ref bd, .ref bk, .ref oh, .ref rd, .ref mk, .ref rw, .ref ss])), (ot, aI E 16 (f1)), (bk, aI E 16 (fbk))] L F 2 [(0, .ref mm), (1, .int (nI (n))), (2, .int (nI (i)))] [] := by
    intro n2
    induction n2 with
    | zero => intro i f1 hi hf hfu2; exact absurd hfu2 (by omega)
    | succ n2 ih2 =>
      intro i f1 hi hf hfu2
      refine g_iload_n C dX5_tell_2 rfl 2 rfl ?_
      refine g_iload_n C dX5_tell_3 rfl 1 rfl ?_
      refine g_nicmp_ge (tgt := 25) C dX5_tell_4 (by decide) (by omega) (by omega) (fun c4 => ?_) (fun c4 => ?_)
      · skip
        obtain rfl : n = i := by omega
        refine g_aload_n C dX5_tell_25 rfl 0 rfl ?_
        refine g_iload_n C dX5_tell_26 rfl 1 rfl ?_
        refine g_putX (X' := [(mm, .inr (7, [.int (cd), .int (nI (nk)), .ref oc, .ref nx, .ref ia, .ref ms, .int (nI (ln)), .int (nI (n)), .ref ot, .long (tp), .ref my, .ref co, .ref bd, .ref bk, .ref oh, .ref rd, .ref mk, .ref rw, .ref ss])), (ot, aI E 16 (f1)), (bk, aI E 16 (fbk))]) C 0 rfl rfl inX5 tyX5 tyX5_ok nmX5 7 (by decide) m_427 rfl rfl rfl (Nat.le_of_ble_eq_true rfl) rfl dX5_tell_27 ?_
        refine g_aload_n C dX5_tell_30 rfl 0 rfl ?_
        refine g_iconst (v := nI (0)) C dX5_tell_31 (by decide) ?_
        refine g_putX (X' := [(mm, .inr (7, [.int (cd), .int (nI (nk)), .ref oc, .ref nx, .ref ia, .ref ms, .int (nI (0)), .int (nI (n)), .ref ot, .long (tp), .ref my, .ref co, .ref bd, .ref bk, .ref oh, .ref rd, .ref mk, .ref rw, .ref ss])), (ot, aI E 16 (f1)), (bk, aI E 16 (fbk))]) C 0 rfl rfl inX5 tyX5 tyX5_ok nmX5 6 (by decide) m_426 rfl rfl rfl (Nat.le_of_ble_eq_true rfl) rfl dX5_tell_32 ?_
        refine g_iload_n C dX5_tell_35 rfl 1 rfl ?_
        exact g_iret C r rfl ⟨f1, rfl, rfl, rfl, rfl, hf⟩ rfl nN dX5_tell_36
      · skip
        refine g_aload_n C dX5_tell_7 rfl 0 rfl ?_
        refine g_getX C 0 rfl rfl inX5 8 (by decide) m_428 rfl dX5_tell_8 ?_
        refine g_iload_n C dX5_tell_11 rfl 2 rfl ?_
        refine g_aload_n C dX5_tell_12 rfl 0 rfl ?_
        refine g_getX C 0 rfl rfl inX5 13 (by decide) m_433 rfl dX5_tell_13 ?_
        refine g_iload_n C dX5_tell_16 rfl 2 rfl ?_
        refine g_iald C 2 rfl (by omega) (by decide) dX5_tell_17 ?_
        refine g_iast (X' := [(mm, .inr (7, [.int (cd), .int (nI (nk)), .ref oc, .ref nx, .ref ia, .ref ms, .int (nI (ln)), .int (nI (os)), .ref ot, .long (tp), .ref my, .ref co, .ref bd, .ref bk, .ref oh, .ref rd, .ref mk, .ref rw, .ref ss])), (ot, aI E 16 (upd f1 i (fbk i))), (bk, aI E 16 (fbk))]) C 1 rfl (by omega) (by decide) rfl dX5_tell_18 ?_
        refine g_iinc (v := nI (i + 1)) (lv' := [(2, .int (nI (i + 1))), (0, .ref mm), (1, .int (nI (n)))]) C dX5_tell_19 2 rfl (nI_inc _ 1) (by decide) rfl ?_
        refine g_goto (tgt := 2) C dX5_tell_22 (by decide) ?_
        refine g_lv [1, 2, 0] rfl ?_
        exact ih2 (i + 1) (upd f1 i (fbk i)) (by omega) (pfS hf rfl) (by omega)
  refine g_lv [1, 2, 0] rfl ?_
  exact lp2 (n + 1) 0 fot (Nat.zero_le _) pf0 (by omega)
