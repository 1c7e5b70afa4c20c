def fw (p : Nat → Int32) (k : Nat) : Int32 := p k ^^^ sb (p (12 + (k + 1) % 4))
theorem fw_nw (p : Nat → Int32) (c : Int32) : ∀ k, k < 4 → nw p c k = if k = 0 then fw p k ^^^ c else fw p k := by
  intro k hk
  match k, hk with
  | 0, _ => rfl
  | 1, _ => rfl
  | 2, _ => rfl
  | 3, _ => rfl
theorem fwS {f f1 : Nat → Int32} {t i : Nat} (hi : i < 4) (h1 : ∀ j, j < 16 * t + 16 → f1 j = f j) (h2 : ∀ k, k < i → f1 (16 * t + 16 + k) = fw (fun i => f (16 * t + i)) k) :
    (∀ j, j < 16 * t + 16 → upd f1 (16 * t + 16 + i) (f1 (16 * t + 16 - 16 + i) ^^^ sb (f1 (16 * t + 16 - 4 + (i + 1) % 4))) j = f j) ∧ ∀ k, k < i + 1 → upd f1 (16 * t + 16 + i) (f1 (16 * t + 16 - 16 + i) ^^^ sb (f1 (16 * t + 16 - 4 + (i + 1) % 4))) (16 * t + 16 + k) = fw (fun i => f (16 * t + i)) k := by
  refine ⟨fun j hj => by rw [pk_un (by omega)]; exact h1 j hj, fun k hk => ?_⟩
  by_cases e : k = i
  · subst e
    rw [pk_us, h1 _ (by omega), h1 _ (by omega)]
    unfold fw
    rw [show 16 * t + 16 - 16 + k = 16 * t + k by omega, show 16 * t + 16 - 4 + (k + 1) % 4 = 16 * t + (12 + (k + 1) % 4) by omega]
  · rw [pk_un (by omega)]
    exact h2 k (by omega)
theorem fwE {f f1 : Nat → Int32} {t i : Nat} {c : Int32} (hi : 4 ≤ i) (h1 : ∀ j, j < 16 * t + 16 → f1 j = f j) (h2 : ∀ k, k < i → f1 (16 * t + 16 + k) = fw (fun i => f (16 * t + i)) k) :
    (∀ j, j < 16 * t + 16 → upd f1 (16 * t + 16) (f1 (16 * t + 16) ^^^ c) j = f j) ∧ ∀ k, k < 4 → upd f1 (16 * t + 16) (f1 (16 * t + 16) ^^^ c) (16 * t + 16 + k) = nw (fun i => f (16 * t + i)) c k := by
  refine ⟨fun j hj => by rw [pk_un (by omega)]; exact h1 j hj, fun k hk => ?_⟩
  rw [fw_nw _ _ k hk]
  by_cases e : k = 0
  · subst e
    rw [if_pos rfl, Nat.add_zero, pk_us, ← h2 0 (by omega)]
  · rw [if_neg e, pk_un (by omega)]
    exact h2 k (by omega)
theorem rk_w {K f f3 : Nat → Int32} {t : Nat} (hf : pfx f (rk K) (16 * t + 16)) (ha : ∀ j, j < 16 * t + 16 → f3 j = f j) (hb : ∀ i, i < 4 → f3 (16 * t + 16 + i) = nw (fun i => f (16 * t + i)) (pwT t) i) : pfx f3 (rk K) (16 * t + 16 + 4) := by
  intro j hj
  rcases Nat.lt_or_ge j (16 * t + 16) with h | h
  · rw [ha j h]; exact hf j h
  · obtain ⟨i, rfl⟩ : ∃ i, j = 16 * t + 16 + i := ⟨j - (16 * t + 16), by omega⟩
    have e : rk K (16 * (t + 1) + i) = nw (rkB K t) (pwT t) i := rk_at K (by omega)
    rw [hb i (by omega), show 16 * t + 16 + i = 16 * (t + 1) + i by omega, e]
    refine nw_congr _ (fun k hk => ?_) i (by omega)
    rw [hf _ (by omega)]
    exact rk_at K hk
theorem rk_n {K f : Nat → Int32} {t i : Nat} (hi : 4 ≤ i) (hi2 : i < 16) (hf : pfx f (rk K) (16 * t + 16 + i)) : f (16 * t + 16 + i - 16) ^^^ f (16 * t + 16 + i - 4) = rk K (16 * t + 16 + i) := by
  rw [hf _ (by omega), hf _ (by omega)]
  obtain ⟨k, rfl⟩ : ∃ k, i = k + 4 := ⟨i - 4, by omega⟩
  have e1 : rk K (16 * (t + 1) + (k + 4)) = nw (rkB K t) (pwT t) (k + 4) := rk_at K (by omega)
  have e2 : rk K (16 * (t + 1) + k) = nw (rkB K t) (pwT t) k := rk_at K (by omega)
  have e3 : rk K (16 * t + (k + 4)) = rkB K t (k + 4) := rk_at K (by omega)
  rw [show 16 * t + 16 + (k + 4) = 16 * (t + 1) + (k + 4) by omega, e1, nw_4, show 16 * (t + 1) + (k + 4) - 16 = 16 * t + (k + 4) by omega, e3, show 16 * (t + 1) + (k + 4) - 4 = 16 * (t + 1) + k by omega, e2]
theorem enc_0 (K X : Nat → Int32) : ∀ i, i < 16 → (fun i => X i ^^^ rk K (16 * 0 + i)) i = encN K X 0 i := fun i _ => by
  show X i ^^^ rk K (16 * 0 + i) = X i ^^^ rk K i
  rw [Nat.mul_zero, Nat.zero_add]
theorem enc_s (K X : Nat → Int32) {j : Nat} (h : j + 1 < 10) : ∀ i, i < 16 → (fun i => MC (SR (encN K X j)) i ^^^ rk K (16 * (j + 1) + i)) i = encN K X (j + 1) i := fun i _ => by
  show _ = rnd K (j + 1) (encN K X j) i
  unfold rnd
  rw [if_pos h]
theorem enc_e (K X : Nat → Int32) {j : Nat} (h : 10 ≤ j + 1) : ∀ i, i < 16 → (fun i => SR (encN K X j) i ^^^ rk K (16 * (j + 1) + i)) i = encN K X (j + 1) i := fun i _ => by
  show _ = rnd K (j + 1) (encN K X j) i
  unfold rnd
  rw [if_neg (by omega)]
section
variable {g : Gm} {u : Mu} {E : Ev} {A : Nat → Prop} {ce sl : Nat} {Q : State → Prop} {X : va_W} {L : List Nat} {F : Nat → va_E} {pc : Nat} {lv : List (Nat × Value)} {st : List Value}
/-- the last explicit cell goes into the pool -/
theorem g_toP {a : Nat} {c : va_E} (k : G g u E A ce sl Q X (L ++ [a]) (va_up F a c) pc lv st) : G g u E A ce sl Q (X ++ [(a, c)]) L F pc lv st := fun H locs ls hw hl => by
  have nd := wd_nd hw
  rw [List.map_append, List.append_assoc, List.nodup_append] at nd
  have ha : a ∉ L := by
    have := (List.nodup_append.mp nd.2.1).2.2
    intro h
    exact this a (by simp) a h rfl
  refine k H locs ls ?_ hl
  rw [← va_pl_push ha]
  have h2 : Wd g E A ((X ++ va_pl L F) ++ [(a, c)]) H locs := ⟨hw.1.swap, hw.2.1.swap, hw.2.2⟩
  rw [List.append_assoc] at h2
  exact h2
/-- the pool's last cell becomes an explicit one -/
theorem g_ofP {a : Nat} {c : va_E} (k : G g u E A ce sl Q (X ++ [(a, c)]) L F pc lv st) : G g u E A ce sl Q X (L ++ [a]) (va_up F a c) pc lv st := fun H locs ls hw hl => by
  have nd := wd_nd hw
  rw [← List.append_assoc, List.nodup_append] at nd
  have ha : a ∉ L := fun h => nd.2.2 a (List.mem_append_right _ h) a (by simp) rfl
  refine k H locs ls ?_ hl
  rw [← va_pl_push ha, ← List.append_assoc] at hw
  exact ⟨hw.1.swap, hw.2.1.swap, hw.2.2⟩
end
theorem nN2 {L : List Nat} {a b : Nat} : ∃ N, L ++ [a] ++ [b] = L ++ N := ⟨[a] ++ [b], by rw [List.append_assoc]⟩
abbrev muX0_putFirstWord : Mu := (cX0_putFirstWord, 5, RX0, none, "putFirstWord", 1, 0, 0, 20)
theorem hd_X0_putFirstWord : yX0_putFirstWord.cls = RX0 ∧ yX0_putFirstWord.cls ≠ "java/lang/invoke/MethodHandle" ∧ yX0_putFirstWord.cls ≠ "java/lang/invoke/VarHandle" ∧ (parseMethodDescriptor yX0_putFirstWord.desc).map (fun d => d.parameters.length) = some 2 := by decide +kernel
set_option maxHeartbeats 4000000 in
set_option maxRecDepth 100000 in
theorem k_X0_putFirstWord (l : Launch) (E : Ev) (h0 r0 t0 t : Nat) (f : Nat → Int32) (c : Int32) (L : List Nat) (F : Nat → va_E) (ht : t < 10) : KC l E yX0_putFirstWord muX0_putFirstWord [.ref h0, .int (nI (16 * t + 16)), .int (c)] [(h0, .inr (2, [.ref r0, .ref t0])), (r0, aI E 176 (f))] L F (fun r8 cx8 L8 F8 => ∃ (f1 : Nat → Int32), r8 = none ∧ cx8 = [(h0, .inr (2, [.ref r0, .ref t0])), (r0, aI E 176 (f1))] ∧ L = L8 ∧ F = F8 ∧ ((∀ j, j < 16 * t + 16 → f1 j = f j) ∧ ∀ i, i < 4 → f1 (16 * t + 16 + i) = nw (fun i => f (16 * t + i)) c i)) := by
  refine K_start (by decide) rfl rfl (Nat.le_of_ble_eq_true rfl) (fun g A Q hgl C r => ?_)
  subst hgl
  show G g muX0_putFirstWord E A 0 0 Q [(h0, .inr (2, [.ref r0, .ref t0])), (r0, aI E 176 (f))] L F 0 [(0, .ref h0), (1, .int (nI (16 * t + 16))), (2, .int (c))] []
  refine g_iconst (v := nI (0)) C dX0_putFirstWord_0 (by decide) ?_
  refine g_istore_n (lv' := [(3, .int (nI (0))), (0, .ref h0), (1, .int (nI (16 * t + 16))), (2, .int (c))]) C dX0_putFirstWord_1 rfl (by decide) rfl ?_
  have lp2 : ∀ (n2 : Nat) (i : Nat) (f1 : Nat → Int32), (i ≤ 4) → (∀ j, j < 16 * t + 16 → f1 j = f j) → (∀ k, k < i → f1 (16 * t + 16 + k) = fw (fun i => f (16 * t + i)) k) → 5 ≤ i + n2 → G g muX0_putFirstWord E A 0 0 Q [(h0, .inr (2, [.ref r0, .ref t0])), (r0, aI E 176 (f1))] L F 2 [(0, .ref h0), (1, .int (nI (16 * t + 16))), (2, .int (c)), (3, .int (nI (i)))] [] := by
    intro n2
    induction n2 with
    | zero => intro i f1 hi h1 h2 hfu2; exact absurd hfu2 (by omega)
    | succ n2 ih2 =>
      intro i f1 hi h1 h2 hfu2
      refine g_iload_n C dX0_putFirstWord_2 rfl 3 rfl ?_
      refine g_iconst (v := nI (4)) C dX0_putFirstWord_3 (by decide) ?_
      refine g_nicmp_ge (tgt := 54) C dX0_putFirstWord_4 (by decide) (by omega) (by omega) (fun c4 => ?_) (fun c4 => ?_)
      · skip
        refine g_aload_n C dX0_putFirstWord_54 rfl 0 rfl ?_
        refine g_getX C 0 rfl rfl inX0 0 (by decide) m_34 rfl dX0_putFirstWord_55 ?_
        refine g_iload_n C dX0_putFirstWord_58 rfl 1 rfl ?_
        refine g_dup2_11 C dX0_putFirstWord_59 rfl rfl ?_
        refine g_iald C 1 rfl (by omega) (by decide) dX0_putFirstWord_60 ?_
        refine g_iload_n C dX0_putFirstWord_61 rfl 2 rfl ?_
        refine g_ixor C dX0_putFirstWord_62 ?_
        refine g_iast (X' := [(h0, .inr (2, [.ref r0, .ref t0])), (r0, aI E 176 (upd f1 (16 * t + 16) ((f1 (16 * t + 16)) ^^^ c)))]) C 1 rfl (by omega) (by decide) rfl dX0_putFirstWord_63 ?_
        exact g_vret C r rfl ⟨upd f1 (16 * t + 16) ((f1 (16 * t + 16)) ^^^ c), rfl, rfl, rfl, rfl, fwE c4 h1 h2⟩ rfl nN dX0_putFirstWord_64
      · skip
        refine g_aload_n C dX0_putFirstWord_7 rfl 0 rfl ?_
        refine g_getX C 0 rfl rfl inX0 0 (by decide) m_34 rfl dX0_putFirstWord_8 ?_
        refine g_iload_n C dX0_putFirstWord_11 rfl 1 rfl ?_
        refine g_iconst (v := nI (4)) C dX0_putFirstWord_12 (by decide) ?_
        refine g_isub C dX0_putFirstWord_13 ?_
        refine g_asi (pk_sub (by omega)) ?_
        refine g_iload_n C dX0_putFirstWord_14 rfl 3 rfl ?_
        refine g_iconst (v := nI (1)) C dX0_putFirstWord_15 (by decide) ?_
        refine g_iadd C dX0_putFirstWord_16 ?_
        refine g_asi (nI_add _ _) ?_
        refine g_iconst (v := nI (4)) C dX0_putFirstWord_17 (by decide) ?_
        refine g_irem C dX0_putFirstWord_18 (by decide) ?_
        refine g_asi (pk_rem (by omega) (by decide) (by decide)) ?_
        refine g_iadd C dX0_putFirstWord_19 ?_
        refine g_asi (nI_add _ _) ?_
        refine g_iald C 1 rfl (by omega) (by decide) dX0_putFirstWord_20 ?_
        refine g_istore (lv' := [(4, .int (f1 (((16 * t + 16) - 4) + ((i + 1) % 4)))), (0, .ref h0), (1, .int (nI (16 * t + 16))), (2, .int (c)), (3, .int (nI (i)))]) C dX0_putFirstWord_21 (by decide) rfl ?_
        refine g_aload_n C dX0_putFirstWord_23 rfl 1 rfl ?_
        refine g_getX C 0 rfl rfl inX0 0 (by decide) m_34 rfl dX0_putFirstWord_24 ?_
        refine g_iload_n C dX0_putFirstWord_27 rfl 2 rfl ?_
        refine g_iload_n C dX0_putFirstWord_28 rfl 4 rfl ?_
        refine g_iadd C dX0_putFirstWord_29 ?_
        refine g_asi (nI_add _ _) ?_
        refine g_aload_n C dX0_putFirstWord_30 rfl 1 rfl ?_
        refine g_getX C 0 rfl rfl inX0 0 (by decide) m_34 rfl dX0_putFirstWord_31 ?_
        refine g_iload_n C dX0_putFirstWord_34 rfl 2 rfl ?_
        refine g_bipush (v := nI (16)) C dX0_putFirstWord_35 (by decide) ?_
        refine g_isub C dX0_putFirstWord_37 ?_
        refine g_asi (pk_sub (by omega)) ?_
        refine g_iload_n C dX0_putFirstWord_38 rfl 4 rfl ?_
        refine g_iadd C dX0_putFirstWord_39 ?_
        refine g_asi (nI_add _ _) ?_
        refine g_iald C 1 rfl (by omega) (by decide) dX0_putFirstWord_40 ?_
        refine g_iload C dX0_putFirstWord_41 0 rfl ?_
        refine g_callSN (v := muX4_substitute) (cx := []) C (k_X4_substitute (gl g) E (f1 (((16 * t + 16) - 4) + ((i + 1) % 4))) L F ) [] rfl (by decide) nn_X0_31 gi_X0_31 gi_X0_31_s gi_X0_31_i hd_X4_substitute.2 ⟨Nat.le_of_ble_eq_true rfl, Nat.le_of_ble_eq_true rfl⟩ rfl rfl (Nat.le_of_ble_eq_true rfl) ⟨Nat.le_of_ble_eq_true rfl, Nat.le_of_ble_eq_true rfl⟩ dX0_putFirstWord_43 (fun r9 cx9 L9 F9 hp9 hf9 hN9 => ?_)
        obtain ⟨rfl, rfl, rfl, rfl, -⟩ := hp9
        show G g muX0_putFirstWord E A 0 0 Q [(h0, .inr (2, [.ref r0, .ref t0])), (r0, aI E 176 (f1))] L F 46 [(4, .int (f1 (((16 * t + 16) - 4) + ((i + 1) % 4)))), (0, .ref h0), (1, .int (nI (16 * t + 16))), (2, .int (c)), (3, .int (nI (i)))] [.int (sb (f1 (((16 * t + 16) - 4) + ((i + 1) % 4)))), .int (f1 (((16 * t + 16) - 16) + i)), .int (nI ((16 * t + 16) + i)), .ref r0]
        refine g_ixor C dX0_putFirstWord_46 ?_
        refine g_iast (X' := [(h0, .inr (2, [.ref r0, .ref t0])), (r0, aI E 176 (upd f1 ((16 * t + 16) + i) ((f1 (((16 * t + 16) - 16) + i)) ^^^ (sb (f1 (((16 * t + 16) - 4) + ((i + 1) % 4)))))))]) C 1 rfl (by omega) (by decide) rfl dX0_putFirstWord_47 ?_
        refine g_iinc (v := nI (i + 1)) (lv' := [(3, .int (nI (i + 1))), (4, .int (f1 (((16 * t + 16) - 4) + ((i + 1) % 4)))), (0, .ref h0), (1, .int (nI (16 * t + 16))), (2, .int (c))]) C dX0_putFirstWord_48 4 rfl (nI_inc _ 1) (by decide) rfl ?_
        refine g_goto (tgt := 2) C dX0_putFirstWord_51 (by decide) ?_
        refine g_lv [2, 3, 4, 0] rfl ?_
        exact ih2 (i + 1) (upd f1 ((16 * t + 16) + i) ((f1 (((16 * t + 16) - 16) + i)) ^^^ (sb (f1 (((16 * t + 16) - 4) + ((i + 1) % 4)))))) (by omega) ((fwS c4 h1 h2).1) ((fwS c4 h1 h2).2) (by omega)
  refine g_lv [1, 2, 3, 0] rfl ?_
  exact lp2 5 0 f (Nat.zero_le _) (fun _ _ => rfl) (fun k hk => absurd hk (Nat.not_lt_zero k)) (by omega)
abbrev muX0_useKey : Mu := (cX0_useKey, 5, RX0, none, "useKey", 2, 0, 0, 44)
theorem hd_X0_useKey : yX0_useKey.cls = RX0 ∧ yX0_useKey.cls ≠ "java/lang/invoke/MethodHandle" ∧ yX0_useKey.cls ≠ "java/lang/invoke/VarHandle" ∧ (parseMethodDescriptor yX0_useKey.desc).map (fun d => d.parameters.length) = some 1 := by decide +kernel
set_option maxHeartbeats 4000000 in
set_option maxRecDepth 100000 in
theorem k_X0_useKey (l : Launch) (E : Ev) (h0 r0 t0 kk oo : Nat) (f K : Nat → Int32) (nx : Int32) (cn : Int64) (L : List Nat) (F : Nat → va_E) (hkL : kk ∈ L) (hkF : F kk = .inr (4, [.ref oo, .int nx, .long cn])) (hoL : oo ∈ L) (hoF : F oo = aI E 16 K) : KC l E yX0_useKey muX0_useKey [.ref h0, .ref kk] [(h0, .inr (2, [.ref r0, .ref t0])), (r0, aI E 176 (f))] L F (fun r8 cx8 L8 F8 => r8 = none ∧ cx8 = [(h0, .inr (2, [.ref r0, .ref t0])), (r0, aI E 176 (rk K))] ∧ L = L8 ∧ F = F8 ∧ (True)) := by
  refine K_start (by decide) rfl rfl (Nat.le_of_ble_eq_true rfl) (fun g A Q hgl C r => ?_)
  subst hgl
  show G g muX0_useKey E A 0 0 Q [(h0, .inr (2, [.ref r0, .ref t0])), (r0, aI E 176 (f))] L F 0 [(0, .ref h0), (1, .ref kk)] []
  refine g_iconst (v := nI (0)) C dX0_useKey_0 (by decide) ?_
  refine g_istore_n (lv' := [(2, .int (nI (0))), (0, .ref h0), (1, .ref kk)]) C dX0_useKey_1 rfl (by decide) rfl ?_
  have lp2 : ∀ (n2 : Nat) (i : Nat) (f1 : Nat → Int32), (i ≤ 16) → (pfx f1 (rk K) i) → 17 ≤ i + n2 → G g muX0_useKey E A 0 0 Q [(h0, .inr (2, [.ref r0, .ref t0])), (r0, aI E 176 (f1))] L F 2 [(0, .ref h0), (1, .ref kk), (2, .int (nI (i)))] [] := by
    intro n2
    induction n2 with
    | zero => intro i f1 hi hf hfu2; exact absurd hfu2 (by omega)
    | succ n2 ih2 =>
      intro i f1 hi hf hfu2
      refine g_iload_n C dX0_useKey_2 rfl 2 rfl ?_
      refine g_bipush (v := nI (16)) C dX0_useKey_3 (by decide) ?_
      refine g_nicmp_ge (tgt := 26) C dX0_useKey_5 (by decide) (by omega) (by omega) (fun c5 => ?_) (fun c5 => ?_)
      · skip
        refine g_iconst (v := nI (1)) C dX0_useKey_26 (by decide) ?_
        refine g_istore_n (lv' := [(2, .int (nI (1))), (0, .ref h0), (1, .ref kk)]) C dX0_useKey_27 rfl (by decide) rfl ?_
        refine g_bipush (v := nI (16)) C dX0_useKey_28 (by decide) ?_
        refine g_istore_n (lv' := [(3, .int (nI (16))), (2, .int (nI (1))), (0, .ref h0), (1, .ref kk)]) C dX0_useKey_30 rfl (by decide) rfl ?_
        have lp31 : ∀ (n31 : Nat) (t : Nat) (f2 : Nat → Int32), (t ≤ 10) → (pfx f2 (rk K) (16 * t + 16)) → 11 ≤ t + n31 → G g muX0_useKey E A 0 0 Q [(h0, .inr (2, [.ref r0, .ref t0])), (r0, aI E 176 (f2))] L F 31 [(0, .ref h0), (1, .ref kk), (2, .int (pwT t)), (3, .int (nI (16 * t + 16)))] [] := by
          intro n31
          induction n31 with
          | zero => intro t f2 ht hf2 hfu31; exact absurd hfu31 (by omega)
          | succ n31 ih31 =>
            intro t f2 ht hf2 hfu31
            refine g_iload_n C dX0_useKey_31 rfl 3 rfl ?_
            refine g_sipush (v := nI (176)) C dX0_useKey_32 (by decide) ?_
            refine g_nicmp_ge (tgt := 102) C dX0_useKey_35 (by decide) (by omega) (by omega) (fun c35 => ?_) (fun c35 => ?_)
            · skip
              refine g_cgI (f' := rk K) (X' := [(h0, .inr (2, [.ref r0, .ref t0])), (r0, aI E 176 (rk K))]) 1 rfl (fun j hj => hf2 j (by omega)) rfl ?_
              exact g_vret C r rfl ⟨rfl, rfl, rfl, rfl, trivial⟩ rfl nN dX0_useKey_102
            · skip
              refine g_aload_n C dX0_useKey_38 rfl 0 rfl ?_
              refine g_iload_n C dX0_useKey_39 rfl 3 rfl ?_
              refine g_iload_n C dX0_useKey_40 rfl 2 rfl ?_
              refine g_callV (v := muX0_putFirstWord) (cx := [(h0, .inr (2, [.ref r0, .ref t0])), (r0, aI E 176 (f2))]) C (k_X0_putFirstWord (gl g) E h0 r0 t0 t f2 (pwT t) L F (by omega)) [0, 1] rfl (by decide) 0 rfl rfl gi_X0_23 hd_X0_putFirstWord ⟨Nat.le_of_ble_eq_true rfl, Nat.le_of_ble_eq_true rfl⟩ rfl rfl (Nat.le_of_ble_eq_true rfl) ⟨Nat.le_of_ble_eq_true rfl, Nat.le_of_ble_eq_true rfl⟩ dX0_useKey_41 (fun r9 cx9 L9 F9 hp9 hf9 hN9 => ?_)
              obtain ⟨f3, rfl, rfl, rfl, rfl, ha, hb⟩ := hp9
              show G g muX0_useKey E A 0 0 Q [(h0, .inr (2, [.ref r0, .ref t0])), (r0, aI E 176 (f3))] L F 44 [(0, .ref h0), (1, .ref kk), (2, .int (pwT t)), (3, .int (nI (16 * t + 16)))] []
              refine g_iload_n C dX0_useKey_44 rfl 3 rfl ?_
              refine g_iconst (v := nI (4)) C dX0_useKey_45 (by decide) ?_
              refine g_iadd C dX0_useKey_46 ?_
              refine g_asi (nI_add _ _) ?_
              refine g_istore (lv' := [(4, .int (nI ((16 * t + 16) + 4))), (0, .ref h0), (1, .ref kk), (2, .int (pwT t)), (3, .int (nI (16 * t + 16)))]) C dX0_useKey_47 (by decide) rfl ?_
              have lp49 : ∀ (n49 : Nat) (i : Nat) (f4 : Nat → Int32), (4 ≤ i) → (i ≤ 16) → (pfx f4 (rk K) (16 * t + 16 + i)) → 17 ≤ i + n49 → G g muX0_useKey E A 0 0 Q [(h0, .inr (2, [.ref r0, .ref t0])), (r0, aI E 176 (f4))] L F 49 [(0, .ref h0), (1, .ref kk), (2, .int (pwT t)), (3, .int (nI (16 * t + 16))), (4, .int (nI (16 * t + 16 + i)))] [] := by
                intro n49
                induction n49 with
                | zero => intro i f4 hi4 hi hf4 hfu49; exact absurd hfu49 (by omega)
                | succ n49 ih49 =>
                  intro i f4 hi4 hi hf4 hfu49
                  refine g_iload C dX0_useKey_49 4 rfl ?_
                  refine g_iload_n C dX0_useKey_51 rfl 3 rfl ?_
                  refine g_bipush (v := nI (16)) C dX0_useKey_52 (by decide) ?_
                  refine g_iadd C dX0_useKey_54 ?_
                  refine g_asi (nI_add _ _) ?_
                  refine g_nicmp_ge (tgt := 91) C dX0_useKey_55 (by decide) (by omega) (by omega) (fun c55 => ?_) (fun c55 => ?_)
                  · skip
                    refine g_iload_n C dX0_useKey_91 rfl 2 rfl ?_
                    refine g_callSN (v := muX4_timesT) (cx := []) C (k_X4_timesT (gl g) E (pwT t) L F ) [] rfl (by decide) nn_X0_27 gi_X0_27 gi_X0_27_s gi_X0_27_i hd_X4_timesT.2 ⟨Nat.le_of_ble_eq_true rfl, Nat.le_of_ble_eq_true rfl⟩ rfl rfl (Nat.le_of_ble_eq_true rfl) ⟨Nat.le_of_ble_eq_true rfl, Nat.le_of_ble_eq_true rfl⟩ dX0_useKey_92 (fun r9 cx9 L9 F9 hp9 hf9 hN9 => ?_)
                    obtain ⟨rfl, rfl, rfl, rfl, -⟩ := hp9
                    show G g muX0_useKey E A 0 0 Q [(h0, .inr (2, [.ref r0, .ref t0])), (r0, aI E 176 (f4))] L F 95 [(0, .ref h0), (1, .ref kk), (2, .int (pwT t)), (3, .int (nI (16 * t + 16))), (4, .int (nI (16 * t + 16 + i)))] [.int (tT (pwT t))]
                    refine g_istore_n (lv' := [(2, .int (tT (pwT t))), (0, .ref h0), (1, .ref kk), (3, .int (nI (16 * t + 16))), (4, .int (nI (16 * t + 16 + i)))]) C dX0_useKey_95 rfl (by decide) rfl ?_
                    refine g_iinc (v := nI (16 * (t + 1) + 16)) (lv' := [(3, .int (nI (16 * (t + 1) + 16))), (2, .int (tT (pwT t))), (0, .ref h0), (1, .ref kk), (4, .int (nI (16 * t + 16 + i)))]) C dX0_useKey_96 3 rfl (nI_inc _ 16) (by decide) rfl ?_
                    refine g_goto (tgt := 31) C dX0_useKey_99 (by decide) ?_
                    refine g_lv [2, 3, 1, 0] rfl ?_
                    exact ih31 (t + 1) f4 (by omega) (fun j hj => hf4 j (by omega)) (by omega)
                  · skip
                    refine g_aload_n C dX0_useKey_58 rfl 0 rfl ?_
                    refine g_getX C 0 rfl rfl inX0 0 (by decide) m_34 rfl dX0_useKey_59 ?_
                    refine g_iload C dX0_useKey_62 4 rfl ?_
                    refine g_aload_n C dX0_useKey_64 rfl 0 rfl ?_
                    refine g_getX C 0 rfl rfl inX0 0 (by decide) m_34 rfl dX0_useKey_65 ?_
                    refine g_iload C dX0_useKey_68 4 rfl ?_
                    refine g_bipush (v := nI (16)) C dX0_useKey_70 (by decide) ?_
                    refine g_isub C dX0_useKey_72 ?_
                    refine g_asi (pk_sub (by omega)) ?_
                    refine g_iald C 1 rfl (by omega) (by decide) dX0_useKey_73 ?_
                    refine g_aload_n C dX0_useKey_74 rfl 0 rfl ?_
                    refine g_getX C 0 rfl rfl inX0 0 (by decide) m_34 rfl dX0_useKey_75 ?_
                    refine g_iload C dX0_useKey_78 4 rfl ?_
                    refine g_iconst (v := nI (4)) C dX0_useKey_80 (by decide) ?_
                    refine g_isub C dX0_useKey_81 ?_
                    refine g_asi (pk_sub (by omega)) ?_
                    refine g_iald C 1 rfl (by omega) (by decide) dX0_useKey_82 ?_
                    refine g_ixor C dX0_useKey_83 ?_
                    refine g_iast (X' := [(h0, .inr (2, [.ref r0, .ref t0])), (r0, aI E 176 (upd f4 (16 * t + 16 + i) ((f4 ((16 * t + 16 + i) - 16)) ^^^ (f4 ((16 * t + 16 + i) - 4)))))]) C 1 rfl (by omega) (by decide) rfl dX0_useKey_84 ?_
                    refine g_iinc (v := nI (16 * t + 16 + i + 1)) (lv' := [(4, .int (nI (16 * t + 16 + i + 1))), (0, .ref h0), (1, .ref kk), (2, .int (pwT t)), (3, .int (nI (16 * t + 16)))]) C dX0_useKey_85 4 rfl (nI_inc _ 1) (by decide) rfl ?_
                    refine g_goto (tgt := 49) C dX0_useKey_88 (by decide) ?_
                    refine g_lv [1, 2, 3, 4, 0] rfl ?_
                    exact ih49 (i + 1) (upd f4 (16 * t + 16 + i) ((f4 ((16 * t + 16 + i) - 16)) ^^^ (f4 ((16 * t + 16 + i) - 4)))) (by omega) (by omega) (pfS hf4 (rk_n hi4 (by omega) hf4)) (by omega)
              refine g_lv [1, 2, 3, 4, 0] rfl ?_
              exact lp49 17 4 f3 (Nat.le_refl _) (by omega) (rk_w hf2 ha hb) (by omega)
        refine g_lv [2, 3, 1, 0] rfl ?_
        exact lp31 11 0 f1 (Nat.zero_le _) (fun j hj => hf j (by omega)) (by omega)
      · skip
        refine g_aload_n C dX0_useKey_8 rfl 0 rfl ?_
        refine g_getX C 0 rfl rfl inX0 0 (by decide) m_34 rfl dX0_useKey_9 ?_
        refine g_iload_n C dX0_useKey_12 rfl 2 rfl ?_
        refine g_aload_n C dX0_useKey_13 rfl 1 rfl ?_
        refine g_getP C hkL hkF rfl inX2 0 (by decide) m_126 rfl dX0_useKey_14 ?_
        refine g_iload_n C dX0_useKey_17 rfl 2 rfl ?_
        refine g_iaP C hoL hoF (by omega) (by decide) dX0_useKey_18 ?_
        refine g_iast (X' := [(h0, .inr (2, [.ref r0, .ref t0])), (r0, aI E 176 (upd f1 i (K i)))]) C 1 rfl (by omega) (by decide) rfl dX0_useKey_19 ?_
        refine g_iinc (v := nI (i + 1)) (lv' := [(2, .int (nI (i + 1))), (0, .ref h0), (1, .ref kk)]) C dX0_useKey_20 2 rfl (nI_inc _ 1) (by decide) rfl ?_
        refine g_goto (tgt := 2) C dX0_useKey_23 (by decide) ?_
        refine g_lv [1, 2, 0] rfl ?_
        exact ih2 (i + 1) (upd f1 i (K i)) (by omega) (pfS hf (rk_0 K c5).symm) (by omega)
  refine g_lv [1, 2, 0] rfl ?_
  exact lp2 17 0 f (Nat.zero_le _) pf0 (by omega)
abbrev muX0_apply : Mu := (cX0_apply, 3, RX0, none, "apply", 2, 0, 0, 47)
theorem hd_X0_apply : yX0_apply.cls = RX0 ∧ yX0_apply.cls ≠ "java/lang/invoke/MethodHandle" ∧ yX0_apply.cls ≠ "java/lang/invoke/VarHandle" ∧ (parseMethodDescriptor yX0_apply.desc).map (fun d => d.parameters.length) = some 1 := by decide +kernel
set_option maxHeartbeats 4000000 in
set_option maxRecDepth 100000 in
theorem k_X0_apply (l : Launch) (E : Ev) (h0 s0 r0 t0 : Nat) (K X tn : Nat → Int32) (L : List Nat) (F : Nat → va_E)  : KC l E yX0_apply muX0_apply [.ref h0, .ref s0] [(h0, .inr (2, [.ref r0, .ref t0])), (r0, aI E 176 (rk K)), (t0, aI E 16 (tn)), (s0, aI E 16 (X))] L F (fun r8 cx8 L8 F8 => ∃ (tn1 : Nat → Int32), r8 = none ∧ cx8 = [(h0, .inr (2, [.ref r0, .ref t0])), (r0, aI E 176 (rk K)), (t0, aI E 16 (tn1)), (s0, aI E 16 (ENC K X))] ∧ L = L8 ∧ F = F8 ∧ (True)) := by
  refine K_start (by decide) rfl rfl (Nat.le_of_ble_eq_true rfl) (fun g A Q hgl C r => ?_)
  subst hgl
  show G g muX0_apply E A 0 0 Q [(h0, .inr (2, [.ref r0, .ref t0])), (r0, aI E 176 (rk K)), (t0, aI E 16 (tn)), (s0, aI E 16 (X))] L F 0 [(0, .ref h0), (1, .ref s0)] []
  refine g_aload_n C dX0_apply_0 rfl 0 rfl ?_
  refine g_aload_n C dX0_apply_1 rfl 1 rfl ?_
  refine g_iconst (v := nI (0)) C dX0_apply_2 (by decide) ?_
  refine g_callV (v := muX0_addRoundKey) (cx := [(h0, .inr (2, [.ref r0, .ref t0])), (r0, aI E 176 (rk K)), (s0, aI E 16 (X))]) C (k_X0_addRoundKey (gl g) E h0 s0 r0 t0 X (rk K) 0 L F (by omega)) [0, 1, 3] rfl (by decide) 0 rfl rfl gi_X0_34 hd_X0_addRoundKey ⟨Nat.le_of_ble_eq_true rfl, Nat.le_of_ble_eq_true rfl⟩ rfl rfl (Nat.le_of_ble_eq_true rfl) ⟨Nat.le_of_ble_eq_true rfl, Nat.le_of_ble_eq_true rfl⟩ dX0_apply_3 (fun r9 cx9 L9 F9 hp9 hf9 hN9 => ?_)
  obtain ⟨rfl, rfl, rfl, rfl, -⟩ := hp9
  show G g muX0_apply E A 0 0 Q [(h0, .inr (2, [.ref r0, .ref t0])), (r0, aI E 176 (rk K)), (t0, aI E 16 (tn)), (s0, aI E 16 (fun i => X i ^^^ (rk K) (16 * 0 + i)))] L F 6 [(0, .ref h0), (1, .ref s0)] []
  refine g_cgI (f' := encN K X 0) (X' := [(h0, .inr (2, [.ref r0, .ref t0])), (r0, aI E 176 (rk K)), (t0, aI E 16 (tn)), (s0, aI E 16 (encN K X 0))]) 3 rfl (enc_0 K X) rfl ?_
  refine g_iconst (v := nI (1)) C dX0_apply_6 (by decide) ?_
  refine g_istore_n (lv' := [(2, .int (nI (1))), (0, .ref h0), (1, .ref s0)]) C dX0_apply_7 rfl (by decide) rfl ?_
  have lp8 : ∀ (n8 : Nat) (j : Nat) (tn2 : Nat → Int32), (j ≤ 10) → 11 ≤ j + n8 → G g muX0_apply E A 0 0 Q [(h0, .inr (2, [.ref r0, .ref t0])), (r0, aI E 176 (rk K)), (t0, aI E 16 (tn2)), (s0, aI E 16 (encN K X j))] L F 8 [(0, .ref h0), (1, .ref s0), (2, .int (nI (j + 1)))] [] := by
    intro n8
    induction n8 with
    | zero => intro j tn2 hj hfu8; exact absurd hfu8 (by omega)
    | succ n8 ih8 =>
      intro j tn2 hj hfu8
      refine g_iload_n C dX0_apply_8 rfl 2 rfl ?_
      refine g_bipush (v := nI (10)) C dX0_apply_9 (by decide) ?_
      refine g_nicmp_gt (tgt := 41) C dX0_apply_11 (by decide) (by omega) (by omega) (fun c11 => ?_) (fun c11 => ?_)
      · skip
        obtain rfl : j = 10 := by omega
        exact g_vret C r rfl ⟨tn2, rfl, rfl, rfl, rfl, trivial⟩ rfl nN dX0_apply_41
      · skip
        refine g_aload_n C dX0_apply_14 rfl 0 rfl ?_
        refine g_aload_n C dX0_apply_15 rfl 1 rfl ?_
        refine g_callV (v := muX0_substituteAndTurnRows) (cx := [(h0, .inr (2, [.ref r0, .ref t0])), (t0, aI E 16 (tn2)), (s0, aI E 16 (encN K X j))]) C (k_X0_substituteAndTurnRows (gl g) E h0 s0 r0 t0 (encN K X j) tn2 L F ) [0, 2, 3] rfl (by decide) 0 rfl rfl gi_X0_38 hd_X0_substituteAndTurnRows ⟨Nat.le_of_ble_eq_true rfl, Nat.le_of_ble_eq_true rfl⟩ rfl rfl (Nat.le_of_ble_eq_true rfl) ⟨Nat.le_of_ble_eq_true rfl, Nat.le_of_ble_eq_true rfl⟩ dX0_apply_16 (fun r9 cx9 L9 F9 hp9 hf9 hN9 => ?_)
        obtain ⟨rfl, rfl, rfl, rfl, -⟩ := hp9
        show G g muX0_apply E A 0 0 Q [(h0, .inr (2, [.ref r0, .ref t0])), (r0, aI E 176 (rk K)), (t0, aI E 16 (SR (encN K X j))), (s0, aI E 16 (SR (encN K X j)))] L F 19 [(0, .ref h0), (1, .ref s0), (2, .int (nI (j + 1)))] []
        refine g_iload_n C dX0_apply_19 rfl 2 rfl ?_
        refine g_bipush (v := nI (10)) C dX0_apply_20 (by decide) ?_
        refine g_nicmp_ge (tgt := 29) C dX0_apply_22 (by decide) (by omega) (by omega) (fun c22 => ?_) (fun c22 => ?_)
        · skip
          refine g_aload_n C dX0_apply_29 rfl 0 rfl ?_
          refine g_aload_n C dX0_apply_30 rfl 1 rfl ?_
          refine g_iload_n C dX0_apply_31 rfl 2 rfl ?_
          refine g_callV (v := muX0_addRoundKey) (cx := [(h0, .inr (2, [.ref r0, .ref t0])), (r0, aI E 176 (rk K)), (s0, aI E 16 (SR (encN K X j)))]) C (k_X0_addRoundKey (gl g) E h0 s0 r0 t0 (SR (encN K X j)) (rk K) (j + 1) L F (by omega)) [0, 1, 3] rfl (by decide) 0 rfl rfl gi_X0_34 hd_X0_addRoundKey ⟨Nat.le_of_ble_eq_true rfl, Nat.le_of_ble_eq_true rfl⟩ rfl rfl (Nat.le_of_ble_eq_true rfl) ⟨Nat.le_of_ble_eq_true rfl, Nat.le_of_ble_eq_true rfl⟩ dX0_apply_32 (fun r9 cx9 L9 F9 hp9 hf9 hN9 => ?_)
          obtain ⟨rfl, rfl, rfl, rfl, -⟩ := hp9
          show G g muX0_apply E A 0 0 Q [(h0, .inr (2, [.ref r0, .ref t0])), (r0, aI E 176 (rk K)), (t0, aI E 16 (SR (encN K X j))), (s0, aI E 16 (fun i => (SR (encN K X j)) i ^^^ (rk K) (16 * (j + 1) + i)))] L F 35 [(0, .ref h0), (1, .ref s0), (2, .int (nI (j + 1)))] []
          refine g_cgI (f' := encN K X (j + 1)) (X' := [(h0, .inr (2, [.ref r0, .ref t0])), (r0, aI E 176 (rk K)), (t0, aI E 16 (SR (encN K X j))), (s0, aI E 16 (encN K X (j + 1)))]) 3 rfl (enc_e K X (by omega)) rfl ?_
          refine g_iinc (v := nI (j + 1 + 1)) (lv' := [(2, .int (nI (j + 1 + 1))), (0, .ref h0), (1, .ref s0)]) C dX0_apply_35 2 rfl (nI_inc _ 1) (by decide) rfl ?_
          refine g_goto (tgt := 8) C dX0_apply_38 (by decide) ?_
          refine g_lv [1, 2, 0] rfl ?_
          exact ih8 (j + 1) (SR (encN K X j)) (by omega) (by omega)
        · skip
          refine g_aload_n C dX0_apply_25 rfl 1 rfl ?_
          refine g_callS (v := muX0_mixColumns) (cx := [(s0, aI E 16 (SR (encN K X j)))]) C (k_X0_mixColumns (gl g) E s0 (SR (encN K X j)) L F ) [3] rfl (by decide) gi_X0_42 hd_X0_mixColumns.2 ⟨Nat.le_of_ble_eq_true rfl, Nat.le_of_ble_eq_true rfl⟩ rfl rfl (Nat.le_of_ble_eq_true rfl) ⟨Nat.le_of_ble_eq_true rfl, Nat.le_of_ble_eq_true rfl⟩ dX0_apply_26 (fun r9 cx9 L9 F9 hp9 hf9 hN9 => ?_)
          obtain ⟨rfl, rfl, rfl, rfl, -⟩ := hp9
          show G g muX0_apply E A 0 0 Q [(h0, .inr (2, [.ref r0, .ref t0])), (r0, aI E 176 (rk K)), (t0, aI E 16 (SR (encN K X j))), (s0, aI E 16 (MC (SR (encN K X j))))] L F 29 [(0, .ref h0), (1, .ref s0), (2, .int (nI (j + 1)))] []
          refine g_aload_n C dX0_apply_29 rfl 0 rfl ?_
          refine g_aload_n C dX0_apply_30 rfl 1 rfl ?_
          refine g_iload_n C dX0_apply_31 rfl 2 rfl ?_
          refine g_callV (v := muX0_addRoundKey) (cx := [(h0, .inr (2, [.ref r0, .ref t0])), (r0, aI E 176 (rk K)), (s0, aI E 16 (MC (SR (encN K X j))))]) C (k_X0_addRoundKey (gl g) E h0 s0 r0 t0 (MC (SR (encN K X j))) (rk K) (j + 1) L F (by omega)) [0, 1, 3] rfl (by decide) 0 rfl rfl gi_X0_34 hd_X0_addRoundKey ⟨Nat.le_of_ble_eq_true rfl, Nat.le_of_ble_eq_true rfl⟩ rfl rfl (Nat.le_of_ble_eq_true rfl) ⟨Nat.le_of_ble_eq_true rfl, Nat.le_of_ble_eq_true rfl⟩ dX0_apply_32 (fun r9 cx9 L9 F9 hp9 hf9 hN9 => ?_)
          obtain ⟨rfl, rfl, rfl, rfl, -⟩ := hp9
          show G g muX0_apply E A 0 0 Q [(h0, .inr (2, [.ref r0, .ref t0])), (r0, aI E 176 (rk K)), (t0, aI E 16 (SR (encN K X j))), (s0, aI E 16 (fun i => (MC (SR (encN K X j))) i ^^^ (rk K) (16 * (j + 1) + i)))] L F 35 [(0, .ref h0), (1, .ref s0), (2, .int (nI (j + 1)))] []
          refine g_cgI (f' := encN K X (j + 1)) (X' := [(h0, .inr (2, [.ref r0, .ref t0])), (r0, aI E 176 (rk K)), (t0, aI E 16 (SR (encN K X j))), (s0, aI E 16 (encN K X (j + 1)))]) 3 rfl (enc_s K X (by omega)) rfl ?_
          refine g_iinc (v := nI (j + 1 + 1)) (lv' := [(2, .int (nI (j + 1 + 1))), (0, .ref h0), (1, .ref s0)]) C dX0_apply_35 2 rfl (nI_inc _ 1) (by decide) rfl ?_
          refine g_goto (tgt := 8) C dX0_apply_38 (by decide) ?_
          refine g_lv [1, 2, 0] rfl ?_
          exact ih8 (j + 1) (SR (encN K X j)) (by omega) (by omega)
  refine g_lv [1, 2, 0] rfl ?_
  exact lp8 11 0 tn (Nat.zero_le _) (by omega)
abbrev muX0_init : Mu := (cX0_init, 1, RX0, none, "<init>", 1, 2, 192, 20)
theorem hd_X0_init : yX0_init.cls = RX0 ∧ yX0_init.cls ≠ "java/lang/invoke/MethodHandle" ∧ yX0_init.cls ≠ "java/lang/invoke/VarHandle" ∧ (parseMethodDescriptor yX0_init.desc).map (fun d => d.parameters.length) = some 0 := by decide +kernel
set_option maxHeartbeats 4000000 in
set_option maxRecDepth 100000 in
theorem k_X0_init (l : Launch) (E : Ev) (h0 : Nat) (L : List Nat) (F : Nat → va_E)  : KC l E yX0_init muX0_init [.ref h0] [(h0, .inr (2, [.null, .null]))] L F (fun r8 cx8 L8 F8 => ∃ (r0 t0 : Nat), r8 = none ∧ cx8 = [(h0, .inr (2, [.ref r0, .ref t0]))] ∧ L ++ [t0] ++ [r0] = L8 ∧ va_up (va_up F t0 (aI E 16 (fun _ => 0))) r0 (aI E 176 (fun _ => 0)) = F8 ∧ (True)) := by
  refine K_start (by decide) rfl rfl (Nat.le_of_ble_eq_true rfl) (fun g A Q hgl C r => ?_)
  subst hgl
  show G g muX0_init E A 0 0 Q [(h0, .inr (2, [.null, .null]))] L F 0 [(0, .ref h0)] []
  refine g_aload_n C dX0_init_0 rfl 0 rfl ?_
  refine g_obj C m_33 m_22 m_23 (by decide) (Nat.le_of_ble_eq_true rfl) dX0_init_1 ?_
  refine g_aload_n C dX0_init_4 rfl 0 rfl ?_
  refine g_sipush (v := nI (176)) C dX0_init_5 (by decide) ?_
  refine g_newI C 176 m_41 (by decide) (by decide) (by decide) (by decide) (by decide) dX0_init_8 (fun r0 => ?_)
  show G g muX0_init E A (0 + 1) (0 + 176) Q [(h0, .inr (2, [.null, .null])), (r0, aI E 176 (fun _ => 0))] L F 10 [(0, .ref h0)] [.ref r0, .ref h0]
  refine g_putF (X' := [(h0, .inr (2, [.ref r0, .null])), (r0, aI E 176 (fun _ => 0))]) C 0 rfl rfl inX0 tyX0 tyX0_ok nmX0 0 (by decide) m_34 rfl rfl rfl rfl rfl (Nat.le_of_ble_eq_true rfl) rfl dX0_init_10 ?_
  refine g_aload_n C dX0_init_13 rfl 0 rfl ?_
  refine g_bipush (v := nI (16)) C dX0_init_14 (by decide) ?_
  refine g_newI C 16 m_41 (by decide) (by decide) (by decide) (by decide) (by decide) dX0_init_16 (fun t0 => ?_)
  show G g muX0_init E A (0 + 1 + 1) (0 + 176 + 16) Q [(h0, .inr (2, [.ref r0, .null])), (r0, aI E 176 (fun _ => 0)), (t0, aI E 16 (fun _ => 0))] L F 18 [(0, .ref h0)] [.ref t0, .ref h0]
  refine g_putF (X' := [(h0, .inr (2, [.ref r0, .ref t0])), (r0, aI E 176 (fun _ => 0)), (t0, aI E 16 (fun _ => 0))]) C 0 rfl rfl inX0 tyX0 tyX0_ok nmX0 1 (by decide) m_35 rfl rfl rfl rfl rfl (Nat.le_of_ble_eq_true rfl) rfl dX0_init_18 ?_
  refine g_toP (X := [(h0, .inr (2, [.ref r0, .ref t0])), (r0, aI E 176 (fun _ => 0))]) (a := t0) (c := aI E 16 (fun _ => 0)) ?_
  refine g_toP (X := [(h0, .inr (2, [.ref r0, .ref t0]))]) (a := r0) (c := aI E 176 (fun _ => 0)) ?_
  refine g_cells (ce' := uC muX0_init) (sl' := uS muX0_init) (Nat.le_of_ble_eq_true rfl) (Nat.le_of_ble_eq_true rfl) ?_
  exact g_vret C r rfl ⟨r0, t0, rfl, rfl, rfl, rfl, trivial⟩ rfl nN2 dX0_init_21
