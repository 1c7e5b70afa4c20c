/-! rows for numbers that are known as Nat: indices, comparisons -/
section
variable {g : Gm} {u : Mu} {E : Ev} {A : Nat → Prop} {ce sl : Nat} {Q : State → Prop} {X : va_W} {L : List Nat} {F : Nat → va_E} {pc : Nat} {lv : List (Nat × Value)} {rest : List Value}
theorem g_iald (C : Cx g u E A) {a : Nat} (q : Nat) {n : Nat} {f : Nat → Int32} (he : X[q]? = some (a, aI E n f)) {i : Nat} (hi : i < n) (hn : n < 2 ^ 31) (hdg : decode u.1 pc = .ok (.iaload, 1))
    (k : G g u E A ce sl Q X L F (pc + 1) lv (.int (f i) :: rest)) : G g u E A ce sl Q X L F pc lv (.int (nI i) :: .ref a :: rest) := g_iaload C q he (vp_in_nI hi hn) hdg (by rw [nI_clamp (Nat.lt_trans hi hn)]; exact k)
theorem g_iaP (C : Cx g u E A) {a : Nat} (ha : a ∈ L) {n : Nat} {f : Nat → Int32} (he : F a = aI E n f) {i : Nat} (hi : i < n) (hn : n < 2 ^ 31) (hdg : decode u.1 pc = .ok (.iaload, 1))
    (k : G g u E A ce sl Q X L F (pc + 1) lv (.int (f i) :: rest)) : G g u E A ce sl Q X L F pc lv (.int (nI i) :: .ref a :: rest) := g_ialoadP C ha he (vp_in_nI hi hn) hdg (by rw [nI_clamp (Nat.lt_trans hi hn)]; exact k)
theorem g_lald (C : Cx g u E A) {a : Nat} (q : Nat) {n : Nat} {f : Nat → Int64} (he : X[q]? = some (a, aJ E n f)) {i : Nat} (hi : i < n) (hn : n < 2 ^ 31) (hdg : decode u.1 pc = .ok (.laload, 1))
    (k : G g u E A ce sl Q X L F (pc + 1) lv (.long (f i) :: rest)) : G g u E A ce sl Q X L F pc lv (.int (nI i) :: .ref a :: rest) := g_laload C q he (vp_in_nI hi hn) hdg (by rw [nI_clamp (Nat.lt_trans hi hn)]; exact k)
theorem g_zald (C : Cx g u E A) {a : Nat} (q : Nat) {n : Nat} {f : Nat → Int32} (he : X[q]? = some (a, aZ E n f)) {i : Nat} (hi : i < n) (hn : n < 2 ^ 31) (hdg : decode u.1 pc = .ok (.baload, 1))
    (k : G g u E A ce sl Q X L F (pc + 1) lv (.int (f i) :: rest)) : G g u E A ce sl Q X L F pc lv (.int (nI i) :: .ref a :: rest) := g_zaload C q he (vp_in_nI hi hn) hdg (by rw [nI_clamp (Nat.lt_trans hi hn)]; exact k)
theorem g_kald (C : Cx g u E A) {a : Nat} (q : Nat) {n : Nat} {f : Nat → Option Nat} (he : X[q]? = some (a, aK E n f)) {i : Nat} (hi : i < n) (hn : n < 2 ^ 31) (hdg : decode u.1 pc = .ok (.aaload, 1))
    (k : G g u E A ce sl Q X L F (pc + 1) lv (va_rf (f i) :: rest)) : G g u E A ce sl Q X L F pc lv (.int (nI i) :: .ref a :: rest) := g_kaload C q he (vp_in_nI hi hn) hdg (by rw [nI_clamp (Nat.lt_trans hi hn)]; exact k)
theorem g_sald (C : Cx g u E A) {a : Nat} (q : Nat) {n : Nat} {f : Nat → Option Nat} (he : X[q]? = some (a, aS E n f)) {i : Nat} (hi : i < n) (hn : n < 2 ^ 31) (hdg : decode u.1 pc = .ok (.aaload, 1))
    (k : G g u E A ce sl Q X L F (pc + 1) lv (va_rf (f i) :: rest)) : G g u E A ce sl Q X L F pc lv (.int (nI i) :: .ref a :: rest) := g_saload C q he (vp_in_nI hi hn) hdg (by rw [nI_clamp (Nat.lt_trans hi hn)]; exact k)
theorem g_iast (C : Cx g u E A) {a : Nat} (q : Nat) {n : Nat} {f : Nat → Int32} (he : X[q]? = some (a, aI E n f)) {i : Nat} {x : Int32} (hi : i < n) (hn : n < 2 ^ 31) {X' : va_W} (hX : X.set q (a, aI E n (upd f i x)) = X') (hdg : decode u.1 pc = .ok (.iastore, 1))
    (k : G g u E A ce sl Q X' L F (pc + 1) lv rest) : G g u E A ce sl Q X L F pc lv (.int x :: .int (nI i) :: .ref a :: rest) := g_iastore C q he (vp_in_nI hi hn) (by rw [nI_clamp (Nat.lt_trans hi hn)]; exact hX) hdg k
theorem g_iasP (C : Cx g u E A) {a : Nat} (ha : a ∈ L) {n : Nat} {f : Nat → Int32} (he : F a = aI E n f) {i : Nat} {x : Int32} (hi : i < n) (hn : n < 2 ^ 31) (hdg : decode u.1 pc = .ok (.iastore, 1))
    (k : G g u E A ce sl Q X L (va_up F a (aI E n (upd f i x))) (pc + 1) lv rest) : G g u E A ce sl Q X L F pc lv (.int x :: .int (nI i) :: .ref a :: rest) := g_iastoreP C ha he (vp_in_nI hi hn) hdg (by rw [nI_clamp (Nat.lt_trans hi hn)]; exact k)
theorem g_last (C : Cx g u E A) {a : Nat} (q : Nat) {n : Nat} {f : Nat → Int64} (he : X[q]? = some (a, aJ E n f)) {i : Nat} {x : Int64} (hi : i < n) (hn : n < 2 ^ 31) {X' : va_W} (hX : X.set q (a, aJ E n (vp_updL f i x)) = X') (hdg : decode u.1 pc = .ok (.lastore, 1))
    (k : G g u E A ce sl Q X' L F (pc + 1) lv rest) : G g u E A ce sl Q X L F pc lv (.long x :: .int (nI i) :: .ref a :: rest) := g_lastore C q he (vp_in_nI hi hn) (by rw [nI_clamp (Nat.lt_trans hi hn)]; exact hX) hdg k
theorem g_zast (C : Cx g u E A) {a : Nat} (q : Nat) {n : Nat} {f : Nat → Int32} (he : X[q]? = some (a, aZ E n f)) {i : Nat} {x : Int32} (hi : i < n) (hn : n < 2 ^ 31) {X' : va_W} (hX : X.set q (a, aZ E n (upd f i (vp_nar .boolean x))) = X') (hdg : decode u.1 pc = .ok (.bastore, 1))
    (k : G g u E A ce sl Q X' L F (pc + 1) lv rest) : G g u E A ce sl Q X L F pc lv (.int x :: .int (nI i) :: .ref a :: rest) := g_zastore C q he (vp_in_nI hi hn) (by rw [nI_clamp (Nat.lt_trans hi hn)]; exact hX) hdg k
theorem g_kast (C : Cx g u E A) {a v : Nat} (q qk : Nat) {n : Nat} {f : Nat → Option Nat} {vs : List Value} (he : X[q]? = some (a, aK E n f)) (hv : X[qk]? = some (v, .inr (4, vs))) {i : Nat} (hi : i < n) (hn : n < 2 ^ 31) {X' : va_W} (hX : X.set q (a, aK E n (va_up f i (some v))) = X') (hdg : decode u.1 pc = .ok (.aastore, 1))
    (k : G g u E A ce sl Q X' L F (pc + 1) lv rest) : G g u E A ce sl Q X L F pc lv (.ref v :: .int (nI i) :: .ref a :: rest) := g_kastore C q qk he hv (vp_in_nI hi hn) (by rw [nI_clamp (Nat.lt_trans hi hn)]; exact hX) hdg k
theorem g_sast (C : Cx g u E A) {a v : Nat} (q qk : Nat) {n : Nat} {f : Nat → Option Nat} {vs : List Value} (he : X[q]? = some (a, aS E n f)) (hv : X[qk]? = some (v, .inr (5, vs))) {i : Nat} (hi : i < n) (hn : n < 2 ^ 31) {X' : va_W} (hX : X.set q (a, aS E n (va_up f i (some v))) = X') (hdg : decode u.1 pc = .ok (.aastore, 1))
    (k : G g u E A ce sl Q X' L F (pc + 1) lv rest) : G g u E A ce sl Q X L F pc lv (.ref v :: .int (nI i) :: .ref a :: rest) := g_sastore C q qk he hv (vp_in_nI hi hn) (by rw [nI_clamp (Nat.lt_trans hi hn)]; exact hX) hdg k
section
variable {x y : Nat} {off : Int} {tgt : Nat}
theorem g_nicmp_eq (C : Cx g u E A) (hdg : decode u.1 pc = .ok (.if_icmp .eq off, 3)) (ht : (pc : Int) + off = (tgt : Int)) (hx : x < 2 ^ 31) (hy : y < 2 ^ 31) (kt : x = y → G g u E A ce sl Q X L F tgt lv rest) (kf : ¬ x = y → G g u E A ce sl Q X L F (pc + 3) lv rest) : G g u E A ce sl Q X L F pc lv (.int (nI y) :: .int (nI x) :: rest) :=
  g_icmp_eq C hdg ht (fun c => kt ((nI_eq hx hy).mp c)) (fun c => kf (fun e => c ((nI_eq hx hy).mpr e)))
theorem g_nicmp_ne (C : Cx g u E A) (hdg : decode u.1 pc = .ok (.if_icmp .ne off, 3)) (ht : (pc : Int) + off = (tgt : Int)) (hx : x < 2 ^ 31) (hy : y < 2 ^ 31) (kt : ¬ x = y → G g u E A ce sl Q X L F tgt lv rest) (kf : x = y → G g u E A ce sl Q X L F (pc + 3) lv rest) : G g u E A ce sl Q X L F pc lv (.int (nI y) :: .int (nI x) :: rest) :=
  g_icmp_ne C hdg ht (fun c => kt (fun e => c ((nI_eq hx hy).mpr e))) (fun c => kf ((nI_eq hx hy).mp c))
theorem g_nicmp_lt (C : Cx g u E A) (hdg : decode u.1 pc = .ok (.if_icmp .lt off, 3)) (ht : (pc : Int) + off = (tgt : Int)) (hx : x < 2 ^ 31) (hy : y < 2 ^ 31) (kt : x < y → G g u E A ce sl Q X L F tgt lv rest) (kf : y ≤ x → G g u E A ce sl Q X L F (pc + 3) lv rest) : G g u E A ce sl Q X L F pc lv (.int (nI y) :: .int (nI x) :: rest) :=
  g_icmp_lt C hdg ht (fun c => kt ((nI_ltI hx hy).mp c)) (fun c => kf (Nat.not_lt.mp fun e => c ((nI_ltI hx hy).mpr e)))
theorem g_nicmp_ge (C : Cx g u E A) (hdg : decode u.1 pc = .ok (.if_icmp .ge off, 3)) (ht : (pc : Int) + off = (tgt : Int)) (hx : x < 2 ^ 31) (hy : y < 2 ^ 31) (kt : y ≤ x → G g u E A ce sl Q X L F tgt lv rest) (kf : x < y → G g u E A ce sl Q X L F (pc + 3) lv rest) : G g u E A ce sl Q X L F pc lv (.int (nI y) :: .int (nI x) :: rest) :=
  g_icmp_ge C hdg ht (fun c => kt ((nI_leI hy hx).mp c)) (fun c => kf (Nat.not_le.mp fun e => c ((nI_leI hy hx).mpr e)))
theorem g_nicmp_gt (C : Cx g u E A) (hdg : decode u.1 pc = .ok (.if_icmp .gt off, 3)) (ht : (pc : Int) + off = (tgt : Int)) (hx : x < 2 ^ 31) (hy : y < 2 ^ 31) (kt : y < x → G g u E A ce sl Q X L F tgt lv rest) (kf : x ≤ y → G g u E A ce sl Q X L F (pc + 3) lv rest) : G g u E A ce sl Q X L F pc lv (.int (nI y) :: .int (nI x) :: rest) :=
  g_icmp_gt C hdg ht (fun c => kt ((nI_ltI hy hx).mp c)) (fun c => kf (Nat.not_lt.mp fun e => c ((nI_ltI hy hx).mpr e)))
theorem g_nicmp_le (C : Cx g u E A) (hdg : decode u.1 pc = .ok (.if_icmp .le off, 3)) (ht : (pc : Int) + off = (tgt : Int)) (hx : x < 2 ^ 31) (hy : y < 2 ^ 31) (kt : x ≤ y → G g u E A ce sl Q X L F tgt lv rest) (kf : y < x → G g u E A ce sl Q X L F (pc + 3) lv rest) : G g u E A ce sl Q X L F pc lv (.int (nI y) :: .int (nI x) :: rest) :=
  g_icmp_le C hdg ht (fun c => kt ((nI_leI hx hy).mp c)) (fun c => kf (Nat.not_le.mp fun e => c ((nI_leI hx hy).mpr e)))
theorem nI_z {x : Nat} (hx : x < 2 ^ 31) : nI x = 0 ↔ x = 0 := by
  have := nI_eq (b := 0) hx (by decide)
  rwa [nI_0] at this
theorem g_nif_eq (C : Cx g u E A) (hdg : decode u.1 pc = .ok (.ifCond .eq off, 3)) (ht : (pc : Int) + off = (tgt : Int)) (hx : x < 2 ^ 31) (kt : x = 0 → G g u E A ce sl Q X L F tgt lv rest) (kf : ¬ x = 0 → G g u E A ce sl Q X L F (pc + 3) lv rest) : G g u E A ce sl Q X L F pc lv (.int (nI x) :: rest) :=
  g_if_eq C hdg ht (fun c => kt ((nI_z hx).mp c)) (fun c => kf (fun e => c ((nI_z hx).mpr e)))
theorem g_nif_ne (C : Cx g u E A) (hdg : decode u.1 pc = .ok (.ifCond .ne off, 3)) (ht : (pc : Int) + off = (tgt : Int)) (hx : x < 2 ^ 31) (kt : ¬ x = 0 → G g u E A ce sl Q X L F tgt lv rest) (kf : x = 0 → G g u E A ce sl Q X L F (pc + 3) lv rest) : G g u E A ce sl Q X L F pc lv (.int (nI x) :: rest) :=
  g_if_ne C hdg ht (fun c => kt (fun e => c ((nI_z hx).mpr e))) (fun c => kf ((nI_z hx).mp c))
theorem g_nif_lt (C : Cx g u E A) (hdg : decode u.1 pc = .ok (.ifCond .lt off, 3)) (ht : (pc : Int) + off = (tgt : Int)) (hx : x < 2 ^ 31) (kf : G g u E A ce sl Q X L F (pc + 3) lv rest) : G g u E A ce sl Q X L F pc lv (.int (nI x) :: rest) :=
  g_if_lt C hdg ht (fun c => absurd c (nI_pos hx)) (fun _ => kf)
theorem g_nif_ge (C : Cx g u E A) (hdg : decode u.1 pc = .ok (.ifCond .ge off, 3)) (ht : (pc : Int) + off = (tgt : Int)) (hx : x < 2 ^ 31) (kt : G g u E A ce sl Q X L F tgt lv rest) : G g u E A ce sl Q X L F pc lv (.int (nI x) :: rest) :=
  g_if_ge C hdg ht (fun _ => kt) (fun c => absurd (nI_pos' hx) c)
theorem g_nif_gt (C : Cx g u E A) (hdg : decode u.1 pc = .ok (.ifCond .gt off, 3)) (ht : (pc : Int) + off = (tgt : Int)) (hx : x < 2 ^ 31) (kt : 0 < x → G g u E A ce sl Q X L F tgt lv rest) (kf : x = 0 → G g u E A ce sl Q X L F (pc + 3) lv rest) : G g u E A ce sl Q X L F pc lv (.int (nI x) :: rest) := by
  refine g_if_gt C hdg ht (fun c => kt ?_) (fun c => kf ?_)
  · rcases Nat.eq_zero_or_pos x with h | h
    · subst h; exact absurd c (by decide)
    · exact h
  · rcases Nat.eq_zero_or_pos x with h | h
    · exact h
    · exact absurd ((nI_0 ▸ nI_lt h hx : (0 : Int32) < nI x)) c
theorem g_nif_le (C : Cx g u E A) (hdg : decode u.1 pc = .ok (.ifCond .le off, 3)) (ht : (pc : Int) + off = (tgt : Int)) (hx : x < 2 ^ 31) (kt : x = 0 → G g u E A ce sl Q X L F tgt lv rest) (kf : 0 < x → G g u E A ce sl Q X L F (pc + 3) lv rest) : G g u E A ce sl Q X L F pc lv (.int (nI x) :: rest) := by
  refine g_if_le C hdg ht (fun c => kt ?_) (fun c => kf ?_)
  · rcases Nat.eq_zero_or_pos x with h | h
    · exact h
    · exact absurd c (nI_nle h hx)
  · rcases Nat.eq_zero_or_pos x with h | h
    · subst h; exact absurd (by decide) c
    · exact h
end
theorem nI_inc (i k : Nat) : nI i + Int32.ofInt (k : Int) = nI (i + k) := nI_add i k
theorem nI_dec {i k : Nat} (h : k ≤ i) : nI i + Int32.ofInt (-(k : Int)) = nI (i - k) := by
  have e : Int32.ofInt (-(k : Int)) = - nI k := by
    rw [Int32.ofInt_neg]; rfl
  rw [e, ← Int32.sub_eq_add_neg]
  exact pk_sub h
end
