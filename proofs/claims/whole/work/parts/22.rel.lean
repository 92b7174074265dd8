/-! how the two states lie beside each other -/
def RT (tl : Int32) (tx : Nat → Int32) (mt : Int32) (mx : Nat → Int32) : Prop := ∃ len : Nat, len ≤ 200 ∧ tl = nI len ∧ mt = nI len ∧ ∃ c : Nat → Nat, ∀ j, j < len → c j < 256 ∧ tx j = nI (c j) ∧ mx j = nI (c j)
abbrev old (Y : Nat → Nat) (a b : Nat) : Prop := Y a < Y b ∨ (Y a = Y b ∧ a < b)
def RB (n : Nat) (Y : Nat → Nat) (hb : Nat → Int32) : Prop := ∃ o : Nat → Nat, (∀ i, i < n → hb i = nI (o i) ∧ o i < n) ∧ ∀ i j, i < j → j < n → old Y (o i) (o j)
def RH (n : Nat) (Y K T : Nat → Nat) (le sh : Nat) (hp hl hs : Int32) (hy hk ht hb td : Nat → Int32) : Prop :=
  n ≤ 7 ∧ (1 ≤ le ∧ le ≤ 60) ∧ (10 ≤ sh ∧ sh ≤ 99) ∧ hp = nI n ∧ td 0 = nI n ∧ hl = nI le ∧ td 1 = nI le ∧ hs = nI sh ∧ td 2 = nI sh ∧ (∀ j, j < n → Y j ≤ 99 ∧ K j ≤ 9 ∧ T j ≤ 2 ∧ hy j = nI (Y j) ∧ td (5 + j) = nI (Y j) ∧ hk j = nI (K j) ∧ td (19 + j) = nI (K j) ∧ ht j = nI (T j) ∧ td (26 + j) = nI (T j)) ∧ RB n Y hb
def vg (n : Nat) (g : Nat → Nat) : Prop := sm g 49 ≤ 420 ∧ ∀ p q, p < 7 → q < 7 → (n ≤ p ∨ n ≤ q) → g (7 * p + q) = 0
def RS (n : Nat) (g : Nat → Nat) (a b : Nat) (sp : Nat → Int32) (spr lo : Int32) (s : Nat → Int32) (off : Nat) : Prop := vg n g ∧ a ≤ 999 ∧ spr = nI a ∧ s (off + 49) = nI a ∧ lo = nI b ∧ s (off + 50) = nI b ∧ ∀ i, i < 49 → sp i = nI (g i) ∧ s (off + i) = nI (g i)
def RHi (n : Nat) (hk hn : Int32) (rspr rlo : Nat → Int32) (rsp : Nat → Nat → Int32) (mk : Int32) (past : Nat → Int32) : Prop := ∃ kn nx : Nat, kn ≤ 10 ∧ nx < 10 ∧ hk = nI kn ∧ hn = nI nx ∧ mk = nI kn ∧ ∀ k, k < kn → ∃ (g : Nat → Nat) (a b : Nat), RS n g a b (rsp ((nx + 10 - kn + k) % 10)) (rspr ((nx + 10 - kn + k) % 10)) (rlo ((nx + 10 - kn + k) % 10)) past (51 * k)
def RI (n : Nat) (kp ispr ilo : Nat → Int32) (isp : Nat → Nat → Int32) (mkp mimg : Nat → Int32) : Prop := ∀ i, i < 2 → (kp i = nI 0 ∧ mkp i = nI 0) ∨ (kp i = nI 1 ∧ mkp i = nI 1 ∧ ∃ (g : Nat → Nat) (a b : Nat), RS n g a b (isp i) (ispr i) (ilo i) mimg (51 * i))
def RLv (n : Nat) (ts : Int32) (tsp tpa tv : Nat → Int32) (mm : Int32) (mn mv : Nat → Int32) : Prop := ∃ c : Nat, c ≤ 5 ∧ ts = nI c ∧ mm = nI c ∧ ∃ (A B V : Nat → Nat), ∀ k, k < c → A k ≤ 60 ∧ B k < n ∧ V k ≤ 420 ∧ tsp k = nI (A k) ∧ tpa k = nI (B k) ∧ tv k = nI (V k) ∧ mn k = nI (10 * A k + B k) ∧ mv k = nI (V k)
/-! arguments -/
theorem ofge {v : Int32} {a : Nat} (ha : a < 2147483648) (h : ¬ v < nI a) : ∃ k, v = nI k ∧ a ≤ k ∧ k < 2147483648 := by
  have h0 : ¬ v < 0 := by
    intro h1
    apply h
    have e1 : v.toInt < 0 := by
      have := (Int32.lt_iff_toInt_lt).mp h1
      simpa using this
    rw [Int32.lt_iff_toInt_lt, nI_toInt ha]
    omega
  obtain ⟨k, hk, rfl⟩ := nI_of h0
  refine ⟨k, rfl, ?_, hk⟩
  rw [nI_ltI hk ha] at h
  omega
theorem in_cases (v : Int32) {a b : Nat} (hab : a ≤ b) (hb : b < 2147483648) : (f_X7_isWithin v (nI a) (nI b) = some (nI 0) ∧ f_X8_in v (nI a) (nI b) = some (nI 0)) ∨ ∃ k, a ≤ k ∧ k ≤ b ∧ v = nI k ∧ f_X7_isWithin (nI k) (nI a) (nI b) = some (nI 1) ∧ f_X8_in (nI k) (nI a) (nI b) = some (nI 1) := by
  by_cases h1 : v < nI a
  · left
    unfold f_X7_isWithin f_X8_in
    rw [if_pos h1]
    exact ⟨rfl, rfl⟩
  · obtain ⟨k, rfl, h2, h3⟩ := ofge (by omega) h1
    by_cases h4 : b < k
    · left
      unfold f_X7_isWithin f_X8_in
      rw [if_neg h1, if_pos (by rw [nI_ltI hb h3]; exact h4)]
      exact ⟨rfl, rfl⟩
    · right
      refine ⟨k, h2, by omega, rfl, ?_⟩
      unfold f_X7_isWithin f_X8_in
      rw [if_neg h1, if_neg (by rw [nI_ltI hb h3]; exact h4)]
      exact ⟨rfl, rfl⟩
theorem pan_cases (v : Int32) {n : Nat} {td : Nat → Int32} (hn : n ≤ 7) (ht : td 0 = nI n) : (f_X2_has (nI n) v = some (nI 0) ∧ f_X8_isPan td v = some (nI 0)) ∨ ∃ p, p < n ∧ v = nI p ∧ f_X2_has (nI n) (nI p) = some (nI 1) ∧ f_X8_isPan td (nI p) = some (nI 1) := by
  by_cases h1 : v < nI 0
  · left
    unfold f_X2_has f_X8_isPan f_X8_in
    simp only [L0, L1, L2, L3, L4, L5, L6, L7, L8, L9, L10, L11, L12, L13, L19, L20, L26, L31, L32, L33, L48, L49, L50, L51, L57, L59, L60, L61, L98, L99, L100, L108, L112, L115, L127, L128, L200, L201, L255, L256, L257, L400, L401, L420, L459, L999, L1000, L5940]
    rw [if_pos h1, qck (by omega) (by omega), if_pos h1]
    exact ⟨rfl, rfl⟩
  · obtain ⟨k, rfl, h2, h3⟩ := ofge (by omega) h1
    have e : (nI n - nI 1 < nI k) = (n ≤ k) := by
      apply propext
      by_cases h0 : n = 0
      · subst h0
        have : nI 0 - nI 1 < nI k := by
          rw [Int32.lt_iff_toInt_lt, nI_toInt h3]
          have : (nI 0 - nI 1).toInt = -1 := by decide
          omega
        exact ⟨fun _ => by omega, fun _ => this⟩
      · rw [qsub (by omega), nI_ltI (by omega) h3]
        omega
    by_cases h4 : n ≤ k
    · left
      unfold f_X2_has f_X8_isPan f_X8_in
      simp only [L0, L1, L2, L3, L4, L5, L6, L7, L8, L9, L10, L11, L12, L13, L19, L20, L26, L31, L32, L33, L48, L49, L50, L51, L57, L59, L60, L61, L98, L99, L100, L108, L112, L115, L127, L128, L200, L201, L255, L256, L257, L400, L401, L420, L459, L999, L1000, L5940]
      rw [if_neg h1, if_pos (by rw [nI_leI (by omega) h3]; exact h4), qck (by omega) (by omega), qcl (by omega), ht, if_neg h1, if_pos (by rw [e]; exact h4)]
      exact ⟨rfl, rfl⟩
    · right
      refine ⟨k, by omega, rfl, ?_⟩
      unfold f_X2_has f_X8_isPan f_X8_in
      simp only [L0, L1, L2, L3, L4, L5, L6, L7, L8, L9, L10, L11, L12, L13, L19, L20, L26, L31, L32, L33, L48, L49, L50, L51, L57, L59, L60, L61, L98, L99, L100, L108, L112, L115, L127, L128, L200, L201, L255, L256, L257, L400, L401, L420, L459, L999, L1000, L5940]
      rw [if_neg h1, if_neg (by rw [nI_leI (by omega) h3]; exact h4), qck (by omega) (by omega), qcl (by omega), ht, if_neg h1, if_neg (by rw [e]; exact h4)]
      exact ⟨rfl, rfl⟩
/-! the easy calls -/
theorem sim_type {tl : Int32} {tx : Nat → Int32} {mt : Int32} {mx : Nat → Int32} (h : RT tl tx mt mx) (v : Int32) : ∃ o1 o2, f_X7_type tl tx v = some o1 ∧ f_X8_type mt mx v = some o2 ∧ o1.1 = o2.1 ∧ RT o1.2.1 o1.2.2 o2.2.1 o2.2.2 := by
  obtain ⟨len, hl, rfl, rfl, c, hc⟩ := h
  unfold f_X7_type f_X8_type f_X6_append
  simp only [L0, L1, L2, L3, L4, L5, L6, L7, L8, L9, L10, L11, L12, L13, L19, L20, L26, L31, L32, L33, L48, L49, L50, L51, L57, L59, L60, L61, L98, L99, L100, L108, L112, L115, L127, L128, L200, L201, L255, L256, L257, L400, L401, L420, L459, L999, L1000, L5940]
  rcases in_cases v (a := 0) (b := 255) (by omega) (by omega) with ⟨e1, e2⟩ | ⟨k, hk1, hk2, rfl, e1, e2⟩
  · rw [e1, e2]
    simp (disch := omega) only [L0, L1, L2, L3, L4, L5, L6, L7, L8, L9, L10, L11, L12, L13, L19, L20, L26, L31, L32, L33, L48, L49, L50, L51, L57, L59, L60, L61, L98, L99, L100, L108, L112, L115, L127, L128, L200, L201, L255, L256, L257, L400, L401, L420, L459, L999, L1000, L5940, nI_add, pk_mul, qle, qlt, qeq, qcl, qck, qbd, qsub, if_pos, if_neg]
    exact ⟨_, _, rfl, rfl, rfl, len, hl, rfl, rfl, c, hc⟩
  · rw [e1, e2]
    by_cases hf : len < 200
    · simp (disch := omega) only [L0, L1, L2, L3, L4, L5, L6, L7, L8, L9, L10, L11, L12, L13, L19, L20, L26, L31, L32, L33, L48, L49, L50, L51, L57, L59, L60, L61, L98, L99, L100, L108, L112, L115, L127, L128, L200, L201, L255, L256, L257, L400, L401, L420, L459, L999, L1000, L5940, nI_add, pk_mul, qle, qlt, qeq, qcl, qck, qbd, qsub, if_pos, if_neg]
      refine ⟨_, _, rfl, rfl, rfl, len + 1, by omega, rfl, rfl, fun j => if j = len then k else c j, fun j hj => ?_⟩
      dsimp only
      by_cases ej : j = len
      · subst ej
        rw [if_pos rfl]
        exact ⟨by omega, qu_s, qu_s⟩
      · rw [if_neg ej]
        obtain ⟨a1, a2, a3⟩ := hc j (by omega)
        exact ⟨a1, (qu_n ej).trans a2, (qu_n ej).trans a3⟩
    · simp (disch := omega) only [L0, L1, L2, L3, L4, L5, L6, L7, L8, L9, L10, L11, L12, L13, L19, L20, L26, L31, L32, L33, L48, L49, L50, L51, L57, L59, L60, L61, L98, L99, L100, L108, L112, L115, L127, L128, L200, L201, L255, L256, L257, L400, L401, L420, L459, L999, L1000, L5940, nI_add, pk_mul, qle, qlt, qeq, qcl, qck, qbd, qsub, if_pos, if_neg]
      exact ⟨_, _, rfl, rfl, rfl, len, hl, rfl, rfl, c, hc⟩
theorem sim_clear {tl : Int32} {tx : Nat → Int32} {mt : Int32} {mx : Nat → Int32} (h : RT tl tx mt mx) : ∃ o1 o2, f_X7_clear tl = some o1 ∧ f_X8_clear mt = some o2 ∧ o1.1 = o2.1 ∧ RT o1.2 tx o2.2 mx := by
  obtain ⟨len, hl, rfl, rfl, c, hc⟩ := h
  exact ⟨_, _, rfl, rfl, rfl, 0, by omega, rfl, rfl, c, fun j hj => absurd hj (by omega)⟩
theorem sim_forget {n : Nat} {ts : Int32} {tsp tpa tv : Nat → Int32} {mm : Int32} {mn mv : Nat → Int32} (h : RLv n ts tsp tpa tv mm mn mv) : ∃ o1 o2, f_X7_forget ts = some o1 ∧ f_X8_forget mm = some o2 ∧ o1.1 = o2.1 ∧ RLv n o1.2 tsp tpa tv o2.2 mn mv := by
  obtain ⟨c, hc, rfl, rfl, A, B, V, hh⟩ := h
  exact ⟨_, _, rfl, rfl, rfl, 0, by omega, rfl, rfl, A, B, V, fun j hj => absurd hj (by omega)⟩
theorem sim_levels {n : Nat} {hp : Int32} {td : Nat → Int32} (hn : n ≤ 7) (e0 : hp = nI n) (et : td 0 = nI n) {ts : Int32} {tsp tpa tv : Nat → Int32} {mm : Int32} {mn mv : Nat → Int32} (h : RLv n ts tsp tpa tv mm mn mv) (v1 v2 v3 : Int32) : ∃ o1 o2, f_X7_levels hp ts tsp tpa tv v1 v2 v3 = some o1 ∧ f_X8_levels mm td mn mv v1 v2 v3 = some o2 ∧ o1.1 = o2.1 ∧ RLv n o1.2.1 o1.2.2.1 o1.2.2.2.1 o1.2.2.2.2 o2.2.1 o2.2.2.1 o2.2.2.2 := by
  subst e0
  have h0 := h
  obtain ⟨c, hc, rfl, rfl, A, B, V, hh⟩ := h
  unfold f_X7_levels f_X8_levels f_X3_append
  simp only [L0, L1, L2, L3, L4, L5, L6, L7, L8, L9, L10, L11, L12, L13, L19, L20, L26, L31, L32, L33, L48, L49, L50, L51, L57, L59, L60, L61, L98, L99, L100, L108, L112, L115, L127, L128, L200, L201, L255, L256, L257, L400, L401, L420, L459, L999, L1000, L5940]
  rcases in_cases v1 (a := 0) (b := 60) (by omega) (by omega) with ⟨e1, e2⟩ | ⟨a, -, ha, rfl, e1, e2⟩
  · rw [e1, e2]
    simp (disch := omega) only [L0, L1, L2, L3, L4, L5, L6, L7, L8, L9, L10, L11, L12, L13, L19, L20, L26, L31, L32, L33, L48, L49, L50, L51, L57, L59, L60, L61, L98, L99, L100, L108, L112, L115, L127, L128, L200, L201, L255, L256, L257, L400, L401, L420, L459, L999, L1000, L5940, nI_add, pk_mul, qle, qlt, qeq, qcl, qck, qbd, qsub, if_pos, if_neg]
    exact ⟨_, _, rfl, rfl, rfl, h0⟩
  rw [e1, e2]
  rcases pan_cases v2 hn et with ⟨e3, e4⟩ | ⟨p, hp, rfl, e3, e4⟩
  · rw [e3, e4]
    simp (disch := omega) only [L0, L1, L2, L3, L4, L5, L6, L7, L8, L9, L10, L11, L12, L13, L19, L20, L26, L31, L32, L33, L48, L49, L50, L51, L57, L59, L60, L61, L98, L99, L100, L108, L112, L115, L127, L128, L200, L201, L255, L256, L257, L400, L401, L420, L459, L999, L1000, L5940, nI_add, pk_mul, qle, qlt, qeq, qcl, qck, qbd, qsub, if_pos, if_neg]
    exact ⟨_, _, rfl, rfl, rfl, h0⟩
  rw [e3, e4]
  rcases in_cases v3 (a := 0) (b := 420) (by omega) (by omega) with ⟨e5, e6⟩ | ⟨v, -, hv, rfl, e5, e6⟩
  · rw [e5, e6]
    simp (disch := omega) only [L0, L1, L2, L3, L4, L5, L6, L7, L8, L9, L10, L11, L12, L13, L19, L20, L26, L31, L32, L33, L48, L49, L50, L51, L57, L59, L60, L61, L98, L99, L100, L108, L112, L115, L127, L128, L200, L201, L255, L256, L257, L400, L401, L420, L459, L999, L1000, L5940, nI_add, pk_mul, qle, qlt, qeq, qcl, qck, qbd, qsub, if_pos, if_neg]
    exact ⟨_, _, rfl, rfl, rfl, h0⟩
  rw [e5, e6]
  by_cases hf : c < 5
  · simp (disch := omega) only [L0, L1, L2, L3, L4, L5, L6, L7, L8, L9, L10, L11, L12, L13, L19, L20, L26, L31, L32, L33, L48, L49, L50, L51, L57, L59, L60, L61, L98, L99, L100, L108, L112, L115, L127, L128, L200, L201, L255, L256, L257, L400, L401, L420, L459, L999, L1000, L5940, nI_add, pk_mul, qle, qlt, qeq, qcl, qck, qbd, qsub, if_pos, if_neg]
    refine ⟨_, _, rfl, rfl, rfl, c + 1, by omega, rfl, rfl, fun j => if j = c then a else A j, fun j => if j = c then p else B j, fun j => if j = c then v else V j, fun j hj => ?_⟩
    by_cases ej : j = c
    · subst ej
      simp only [if_pos]
      exact ⟨ha, hp, hv, qu_s, qu_s, qu_s, qu_s, qu_s⟩
    · simp only [if_neg ej]
      obtain ⟨a1, a2, a3, a4, a5, a6, a7, a8⟩ := hh j (by omega)
      exact ⟨a1, a2, a3, (qu_n ej).trans a4, (qu_n ej).trans a5, (qu_n ej).trans a6, (qu_n ej).trans a7, (qu_n ej).trans a8⟩
  · simp (disch := omega) only [L0, L1, L2, L3, L4, L5, L6, L7, L8, L9, L10, L11, L12, L13, L19, L20, L26, L31, L32, L33, L48, L49, L50, L51, L57, L59, L60, L61, L98, L99, L100, L108, L112, L115, L127, L128, L200, L201, L255, L256, L257, L400, L401, L420, L459, L999, L1000, L5940, nI_add, pk_mul, qle, qlt, qeq, qcl, qck, qbd, qsub, if_pos, if_neg]
    exact ⟨_, _, rfl, rfl, rfl, h0⟩
theorem sim_count {n : Nat} {Y K T : Nat → Nat} {le sh : Nat} {hp hl hs : Int32} {hy hk ht hb td : Nat → Int32} (h : RH n Y K T le sh hp hl hs hy hk ht hb td) {tl : Int32} {tx : Nat → Int32} {mt : Int32} {mx : Nat → Int32} (h2 : RT tl tx mt mx) {ts : Int32} {tsp tpa tv : Nat → Int32} {mm : Int32} {mn mv : Nat → Int32} (h3 : RLv n ts tsp tpa tv mm mn mv) (v : Int32) : ∃ o, f_X7_count tl ts hp hl hs v = some o ∧ f_X8_count mt mm td v = some o := by
  obtain ⟨-, -, -, rfl, e0, rfl, e1, rfl, e2, -⟩ := h
  obtain ⟨len, -, rfl, rfl, -⟩ := h2
  obtain ⟨c, -, rfl, rfl, -⟩ := h3
  unfold f_X7_count f_X8_count
  simp only [L0, L1, L2, L3, L4, L5, L6, L7, L8, L9, L10, L11, L12, L13, L19, L20, L26, L31, L32, L33, L48, L49, L50, L51, L57, L59, L60, L61, L98, L99, L100, L108, L112, L115, L127, L128, L200, L201, L255, L256, L257, L400, L401, L420, L459, L999, L1000, L5940]
  rw [qck (by omega) (by omega), qck (by omega) (by omega), qck (by omega) (by omega), qcl (by omega), qcl (by omega), qcl (by omega), e0, e1, e2]
  by_cases h0 : v = nI 0
  · rw [if_pos h0]; exact ⟨_, rfl, rfl⟩
  rw [if_neg h0]
  by_cases h1 : v = nI 1
  · rw [if_pos h1]; exact ⟨_, rfl, rfl⟩
  rw [if_neg h1]
  by_cases h2 : v = nI 2
  · rw [if_pos h2]; exact ⟨_, rfl, rfl⟩
  rw [if_neg h2]
  by_cases h3 : v = nI 3
  · rw [if_pos h3]; exact ⟨_, rfl, rfl⟩
  rw [if_neg h3]
  by_cases h4 : v = nI 4
  · rw [if_pos h4]; exact ⟨_, rfl, rfl⟩
  rw [if_neg h4]
  exact ⟨_, rfl, rfl⟩
theorem sim_holds {n : Nat} {hp : Int32} {td : Nat → Int32} (hn : n ≤ 7) (e0 : hp = nI n) (et : td 0 = nI n) {g : Nat → Nat} {a b : Nat} {sp : Nat → Int32} {spr lo : Int32} {s : Nat → Int32} (h : RS n g a b sp spr lo s 0) (v1 v2 : Int32) : ∃ o, f_X7_holds hp sp v1 v2 = some o ∧ f_X8_holds td s v1 v2 = some o := by
  subst e0
  obtain ⟨-, -, -, -, -, -, hs⟩ := h
  unfold f_X7_holds f_X8_holds
  simp only [L0, L1, L2, L3, L4, L5, L6, L7, L8, L9, L10, L11, L12, L13, L19, L20, L26, L31, L32, L33, L48, L49, L50, L51, L57, L59, L60, L61, L98, L99, L100, L108, L112, L115, L127, L128, L200, L201, L255, L256, L257, L400, L401, L420, L459, L999, L1000, L5940]
  rcases pan_cases v1 hn et with ⟨e3, e4⟩ | ⟨p, hp, rfl, e3, e4⟩
  · rw [e3, e4]
    simp (disch := omega) only [L0, L1, L2, L3, L4, L5, L6, L7, L8, L9, L10, L11, L12, L13, L19, L20, L26, L31, L32, L33, L48, L49, L50, L51, L57, L59, L60, L61, L98, L99, L100, L108, L112, L115, L127, L128, L200, L201, L255, L256, L257, L400, L401, L420, L459, L999, L1000, L5940, nI_add, pk_mul, qle, qlt, qeq, qcl, qck, qbd, qsub, if_pos, if_neg]
    exact ⟨_, rfl, rfl⟩
  rw [e3, e4]
  rcases pan_cases v2 hn et with ⟨e5, e6⟩ | ⟨q, hq, rfl, e5, e6⟩
  · rw [e5, e6]
    simp (disch := omega) only [L0, L1, L2, L3, L4, L5, L6, L7, L8, L9, L10, L11, L12, L13, L19, L20, L26, L31, L32, L33, L48, L49, L50, L51, L57, L59, L60, L61, L98, L99, L100, L108, L112, L115, L127, L128, L200, L201, L255, L256, L257, L400, L401, L420, L459, L999, L1000, L5940, nI_add, pk_mul, qle, qlt, qeq, qcl, qck, qbd, qsub, if_pos, if_neg]
    exact ⟨_, rfl, rfl⟩
  rw [e5, e6, q_amount (fun i hi => (hs i hi).1) (by omega) (by omega)]
  simp (disch := omega) only [L0, L1, L2, L3, L4, L5, L6, L7, L8, L9, L10, L11, L12, L13, L19, L20, L26, L31, L32, L33, L48, L49, L50, L51, L57, L59, L60, L61, L98, L99, L100, L108, L112, L115, L127, L128, L200, L201, L255, L256, L257, L400, L401, L420, L459, L999, L1000, L5940, nI_add, pk_mul, qle, qlt, qeq, qcl, qck, qbd, qsub, if_pos, if_neg]
  refine ⟨_, rfl, ?_⟩
  have e := (hs (7 * p + q) (by omega)).2
  rw [Nat.zero_add] at e
  rw [e]
