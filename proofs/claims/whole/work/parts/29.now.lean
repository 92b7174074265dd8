/-! the wettest year -/
def yr (Y g : Nat → Nat) (n y : Nat) : Nat := sm (fun q => if Y q = y then sm (fun p => g (7 * p + q)) n else 0) n
theorem q_ofYear {n y : Nat} {Y g : Nat → Nat} {hy sp : Nat → Int32} (hn : n ≤ 7) (hyb : y < 1000) (hs : ∀ x, x < 49 → sp x = nI (g x)) (hY : ∀ j, j < n → Y j ≤ 99 ∧ hy j = nI (Y j)) : f_X4_ofYear (nI n) hy sp (nI y) = some (nI (yr Y g n y)) := by
  unfold f_X4_ofYear yr
  simp only [L0, L1, L2, L3, L4, L5, L6, L7, L8, L9, L10, L11, L12, L13, L19, L20, L26, L31, L32, L33, L48, L49, L50, L51, L57, L59, L60, L61, L98, L99, L100, L108, L112, L115, L127, L128, L200, L201, L255, L256, L257, L400, L401, L420, L459, L999, L1000, L5940]
  refine lup (fun q f => f_X4_ofYear_L4 (nI n) hy sp (nI y) f (nI (sm (fun q => if Y q = y then sm (fun p => g (7 * p + q)) n else 0) q)) (nI q)) n _ (fun q f hq => ?_) (fun f => ?_) 0 FU (by omega) (fu (by omega))
  · have hYq := hY q hq
    show f_X4_ofYear_B4 _ _ _ _ _ _ _ = _
    unfold f_X4_ofYear_B4
    simp only [L0, L1, L2, L3, L4, L5, L6, L7, L8, L9, L10, L11, L12, L13, L19, L20, L26, L31, L32, L33, L48, L49, L50, L51, L57, L59, L60, L61, L98, L99, L100, L108, L112, L115, L127, L128, L200, L201, L255, L256, L257, L400, L401, L420, L459, L999, L1000, L5940]
    rw [if_neg (nI_ge hq (by omega))]
    have e1 : sm (fun q => if Y q = y then sm (fun p => g (7 * p + q)) n else 0) (q + 1) = sm (fun q => if Y q = y then sm (fun p => g (7 * p + q)) n else 0) q + (if Y q = y then sm (fun p => g (7 * p + q)) n else 0) := rfl
    by_cases c : Y q = y
    · rw [e1, if_pos c]
      refine lup (fun p f2 => f_X4_ofYear_L18 (nI n) hy sp (nI q) (nI y) (f_X4_ofYear_L4 (nI n) hy sp (nI y) f) f2 (nI (sm (fun q => if Y q = y then sm (fun p => g (7 * p + q)) n else 0) q + sm (fun p => g (7 * p + q)) p)) (nI p)) n _ (fun p f2 hp => ?_) (fun f2 => ?_) 0 FU (by omega) (fu (by omega))
      · show f_X4_ofYear_B18 _ _ _ _ _ _ _ _ _ = _
        unfold f_X4_ofYear_B18
        simp only [L0, L1, L2, L3, L4, L5, L6, L7, L8, L9, L10, L11, L12, L13, L19, L20, L26, L31, L32, L33, L48, L49, L50, L51, L57, L59, L60, L61, L98, L99, L100, L108, L112, L115, L127, L128, L200, L201, L255, L256, L257, L400, L401, L420, L459, L999, L1000, L5940]
        rw [qck (show q < 7 by omega) (by omega), qcl (by omega), hYq.2, if_pos (by rw [c]), if_neg (nI_ge hp (by omega)), q_amount hs (by omega) (by omega), qbd, nI_add, nI_add, sm_s, Nat.add_assoc]
      · show f_X4_ofYear_B18 _ _ _ _ _ _ _ _ _ = _
        unfold f_X4_ofYear_B18
        simp only [L0, L1, L2, L3, L4, L5, L6, L7, L8, L9, L10, L11, L12, L13, L19, L20, L26, L31, L32, L33, L48, L49, L50, L51, L57, L59, L60, L61, L98, L99, L100, L108, L112, L115, L127, L128, L200, L201, L255, L256, L257, L400, L401, L420, L459, L999, L1000, L5940]
        rw [qck (show q < 7 by omega) (by omega), qcl (by omega), hYq.2, if_pos (by rw [c]), if_pos (nI_le (Nat.le_refl _) (by omega)), nI_add]
    · rw [e1, if_neg c, Nat.add_zero]
      show f_X4_ofYear_L18 _ _ _ _ _ _ (999 + 1) _ _ = _
      show f_X4_ofYear_B18 _ _ _ _ _ _ _ _ _ = _
      unfold f_X4_ofYear_B18
      simp only [L0, L1, L2, L3, L4, L5, L6, L7, L8, L9, L10, L11, L12, L13, L19, L20, L26, L31, L32, L33, L48, L49, L50, L51, L57, L59, L60, L61, L98, L99, L100, L108, L112, L115, L127, L128, L200, L201, L255, L256, L257, L400, L401, L420, L459, L999, L1000, L5940]
      rw [qck (show q < 7 by omega) (by omega), qcl (by omega), hYq.2, if_neg (by rw [nI_eq (by omega) (by omega)]; exact c), nI_add]
  · show f_X4_ofYear_B4 _ _ _ _ _ _ _ = _
    unfold f_X4_ofYear_B4
    rw [if_pos (nI_le (Nat.le_refl _) (by omega))]
theorem yr_le {Y g : Nat → Nat} {n : Nat} (hn : n ≤ 7) (hv : vg n g) (y : Nat) : yr Y g n y ≤ 420 := by
  have h1 : yr Y g n y ≤ sm (fun q => sm (fun p => g (7 * p + q)) n) n := sm_le (fun q _ => by
    by_cases c : Y q = y
    · rw [if_pos c]; exact Nat.le_refl _
    · rw [if_neg c]; exact Nat.zero_le _)
  rw [sm_swap] at h1
  have h2 : sm (fun p => sm (fun q => g (7 * p + q)) n) n ≤ sm (fun p => sm (fun q => g (7 * p + q)) 7) 7 :=
    Nat.le_trans (sm_le (fun p _ => sm_mono _ hn)) (sm_mono _ hn)
  have h3 := sm_rows g 7
  have := hv.1
  rw [show (7 * 7 : Nat) = 49 from rfl] at h3
  omega
/-- w is the wettest year among the pans of which P holds -/
def wt (Y : Nat → Nat) (S : Nat → Nat) (P : Nat → Prop) (w : Int32) (most : Nat) : Prop := (most = 0 ∧ w = -nI 9 ∧ ∀ q, P q → S (Y q) = 0) ∨ ∃ q, P q ∧ w = nI (Y q) ∧ most = S (Y q) ∧ 0 < most ∧ ∀ x, P x → S (Y x) < most ∨ (S (Y x) = most ∧ Y q ≤ Y x)
theorem wt_one {Y S : Nat → Nat} {P : Nat → Prop} {w w' : Int32} {m m' : Nat} (h : wt Y S P w m) (h' : wt Y S P w' m') : w = w' := by
  rcases h with ⟨a1, a2, a3⟩ | ⟨q, a1, a2, a3, a4, a5⟩ <;> rcases h' with ⟨b1, b2, b3⟩ | ⟨q', b1, b2, b3, b4, b5⟩
  · rw [a2, b2]
  · have := a3 q' b1; omega
  · have := b3 q a1; omega
  · rw [a2, b2]
    have e : Y q = Y q' := by
      rcases a5 q' b1 with c | c <;> rcases b5 q a1 with d | d <;> omega
    rw [e]
theorem q_wettest {n : Nat} {Y o g : Nat → Nat} {hb hy sp : Nat → Int32} (hn : n ≤ 7) (ho : srt n Y o) (hbo : ∀ i, i < n → hb i = nI (o i)) (hs : ∀ x, x < 49 → sp x = nI (g x)) (hv : vg n g) (hY : ∀ j, j < n → Y j ≤ 99 ∧ hy j = nI (Y j)) : ∃ w m, f_X4_wettest (nI n) hb hy sp = some w ∧ wt Y (yr Y g n) (fun q => q < n) w m := by
  have key : ∀ d i f w m, i + d = n → d < f → wt Y (yr Y g n) (fun q => ∃ j, j < i ∧ o j = q) w m → ∃ w' m', f_X4_wettest_L7 (nI n) hb hy sp f w (nI m) (nI i) = some w' ∧ wt Y (yr Y g n) (fun q => q < n) w' m' := by
    intro d
    induction d with
    | zero =>
      intro i f w m hi hf hw
      obtain ⟨f, rfl⟩ : ∃ k, f = k + 1 := ⟨f - 1, by omega⟩
      have hi : i = n := by omega
      subst hi
      refine ⟨w, m, ?_, ?_⟩
      · show f_X4_wettest_B7 _ _ _ _ _ _ _ _ = _
        unfold f_X4_wettest_B7
        rw [if_pos (nI_le (Nat.le_refl _) (by omega))]
      · have hP : (fun q => ∃ j, j < i ∧ o j = q) = (fun q => q < i) := funext (fun q => propext ⟨fun ⟨j, h1, h2⟩ => h2 ▸ ho.1 j h1, fun h => by obtain ⟨j, h1, h2⟩ := ho.onto h; exact ⟨j, h1, h2⟩⟩)
        rw [hP] at hw
        exact hw
    | succ d ih =>
      intro i f w m hi hf hw
      obtain ⟨f, rfl⟩ : ∃ k, f = k + 1 := ⟨f - 1, by omega⟩
      have hin : i < n := by omega
      have hoi := ho.1 i hin
      have hYo := hY (o i) hoi
      have hyl := yr_le (Y := Y) hn hv (Y (o i))
      have hm : m ≤ 420 := by
        rcases hw with ⟨a1, -, -⟩ | ⟨q, -, -, a3, -, -⟩
        · omega
        · rw [a3]; exact yr_le hn hv _
      show ∃ w' m', f_X4_wettest_B7 _ _ _ _ _ _ _ _ = _ ∧ _
      unfold f_X4_wettest_B7
      simp only [L0, L1, L2, L3, L4, L5, L6, L7, L8, L9, L10, L11, L12, L13, L19, L20, L26, L31, L32, L33, L48, L49, L50, L51, L57, L59, L60, L61, L98, L99, L100, L108, L112, L115, L127, L128, L200, L201, L255, L256, L257, L400, L401, L420, L459, L999, L1000, L5940]
      rw [if_neg (nI_ge hin (by omega)), qck (show i < 7 by omega) (by omega), qcl (by omega), hbo i hin, qck (show o i < 7 by omega) (by omega), qcl (by omega), hYo.2, q_ofYear hn (by omega) hs hY, qbd, nI_add]
      by_cases c : yr Y g n (Y (o i)) ≤ m
      · rw [if_pos (nI_le c (by omega))]
        refine ih (i + 1) f w m (by omega) (by omega) ?_
        rcases hw with ⟨a1, a2, a3⟩ | ⟨q, ⟨j, j1, j2⟩, a2, a3, a4, a5⟩
        · refine Or.inl ⟨a1, a2, fun q ⟨j, j1, j2⟩ => ?_⟩
          by_cases e : j = i
          · subst e; subst j2; omega
          · exact a3 q ⟨j, by omega, j2⟩
        · refine Or.inr ⟨q, ⟨j, by omega, j2⟩, a2, a3, a4, fun x ⟨k, k1, k2⟩ => ?_⟩
          by_cases e : k = i
          · subst e; subst k2
            rcases Nat.lt_or_ge (yr Y g n (Y (o k))) m with z | z
            · exact Or.inl z
            · refine Or.inr ⟨by omega, ?_⟩
              have := ho.2 j k j1 hin
              rw [j2] at this
              rcases this with t | t <;> omega
          · exact a5 x ⟨k, by omega, k2⟩
      · rw [if_neg (by rw [nI_leI (by omega) (by omega)]; exact c)]
        refine ih (i + 1) f _ (yr Y g n (Y (o i))) (by omega) (by omega) (Or.inr ⟨o i, ⟨i, by omega, rfl⟩, rfl, rfl, by omega, fun x ⟨k, k1, k2⟩ => ?_⟩)
        by_cases e : k = i
        · subst e; subst k2; exact Or.inr ⟨rfl, Nat.le_refl _⟩
        · left
          rcases hw with ⟨a1, a2, a3⟩ | ⟨q, -, -, a3, -, a5⟩
          · have := a3 x ⟨k, by omega, k2⟩; omega
          · rcases a5 x ⟨k, by omega, k2⟩ with z | z <;> omega
  unfold f_X4_wettest
  simp only [L0, L1, L2, L3, L4, L5, L6, L7, L8, L9, L10, L11, L12, L13, L19, L20, L26, L31, L32, L33, L48, L49, L50, L51, L57, L59, L60, L61, L98, L99, L100, L108, L112, L115, L127, L128, L200, L201, L255, L256, L257, L400, L401, L420, L459, L999, L1000, L5940]
  exact key n 0 FU (-nI 9) 0 (by omega) (fu (by omega)) (Or.inl ⟨rfl, rfl, fun q ⟨j, j1, _⟩ => absurd j1 (by omega)⟩)
theorem q_mwet23 {n p : Nat} {Y g : Nat → Nat} {s td : Nat → Int32} {v1 v2 : Int32} {k7 : Int32 → Int32 → Int32 → Option Int32} (hn : n ≤ 7) (hp : p < n) (h0 : td 0 = nI n) (hs : ∀ x, x < 49 → s x = nI (g x)) (hY : ∀ j, j < n → Y j ≤ 99 ∧ td (5 + j) = nI (Y j)) :
    f_X8_wettest_L23 td s v1 v2 (nI p) k7 FU (nI 0) (nI 0) = f_X8_wettest_J102 td v1 v2 (nI p) k7 (nI (yr Y g n (Y p))) := by
  unfold yr
  refine lup (fun q f => f_X8_wettest_L23 td s v1 v2 (nI p) k7 f (nI (sm (fun q => if Y q = Y p then sm (fun p => g (7 * p + q)) n else 0) q)) (nI q)) n _ (fun q f hq => ?_) (fun f => ?_) 0 FU (by omega) (fu (by omega))
  · have hYq := hY q hq
    have hYp := hY p hp
    show f_X8_wettest_B23 _ _ _ _ _ _ _ _ _ = _
    unfold f_X8_wettest_B23
    simp only [L0, L1, L2, L3, L4, L5, L6, L7, L8, L9, L10, L11, L12, L13, L19, L20, L26, L31, L32, L33, L48, L49, L50, L51, L57, L59, L60, L61, L98, L99, L100, L108, L112, L115, L127, L128, L200, L201, L255, L256, L257, L400, L401, L420, L459, L999, L1000, L5940]
    rw [qck (by omega) (by omega), qcl (by omega), h0, if_neg (nI_ge hq (by omega))]
    have e1 : sm (fun q => if Y q = Y p then sm (fun p => g (7 * p + q)) n else 0) (q + 1) = sm (fun q => if Y q = Y p then sm (fun p => g (7 * p + q)) n else 0) q + (if Y q = Y p then sm (fun p => g (7 * p + q)) n else 0) := rfl
    have e2 : (if Y q = Y p then sm (fun p => g (7 * p + q)) n else 0) = sm (fun r => if Y q = Y p then g (7 * r + q) else 0) n := by
      by_cases c : Y q = Y p
      · rw [if_pos c]; exact sm_cong (fun r _ => (if_pos c).symm)
      · rw [if_neg c]; exact (sm_z (fun r _ => if_neg c)).symm
    rw [e1, e2]
    refine lup (fun r f2 => f_X8_wettest_L37 td s (nI p) (nI q) (f_X8_wettest_L23 td s v1 v2 (nI p) k7 f) f2 (nI (sm (fun q => if Y q = Y p then sm (fun p => g (7 * p + q)) n else 0) q + sm (fun r => if Y q = Y p then g (7 * r + q) else 0) r)) (nI r)) n _ (fun r f2 hr => ?_) (fun f2 => ?_) 0 FU (by omega) (fu (by omega))
    · show f_X8_wettest_B37 _ _ _ _ _ _ _ _ = _
      unfold f_X8_wettest_B37
      simp only [L0, L1, L2, L3, L4, L5, L6, L7, L8, L9, L10, L11, L12, L13, L19, L20, L26, L31, L32, L33, L48, L49, L50, L51, L57, L59, L60, L61, L98, L99, L100, L108, L112, L115, L127, L128, L200, L201, L255, L256, L257, L400, L401, L420, L459, L999, L1000, L5940]
      have e3 : sm (fun r => if Y q = Y p then g (7 * r + q) else 0) (r + 1) = sm (fun r => if Y q = Y p then g (7 * r + q) else 0) r + (if Y q = Y p then g (7 * r + q) else 0) := rfl
      rw [qck (by omega) (by omega), qcl (by omega), h0, if_neg (nI_ge hr (by omega)), nI_add, nI_add, qck (show 5 + q < 33 by omega) (by omega), qck (show 5 + p < 33 by omega) (by omega), qcl (by omega), qcl (by omega), hYq.2, hYp.2, e3]
      by_cases c : Y q = Y p
      · rw [if_pos (by rw [c]), if_pos c, pk_mul, nI_add, qck (by omega) (by omega), qcl (by omega), hs _ (by omega), nI_add, nI_add, Nat.add_assoc]
      · rw [if_neg (by rw [nI_eq (by omega) (by omega)]; exact c), if_neg c, nI_add, nI_add]
        rfl
    · show f_X8_wettest_B37 _ _ _ _ _ _ _ _ = _
      unfold f_X8_wettest_B37
      simp only [L0, L1, L2, L3, L4, L5, L6, L7, L8, L9, L10, L11, L12, L13, L19, L20, L26, L31, L32, L33, L48, L49, L50, L51, L57, L59, L60, L61, L98, L99, L100, L108, L112, L115, L127, L128, L200, L201, L255, L256, L257, L400, L401, L420, L459, L999, L1000, L5940]
      rw [qck (by omega) (by omega), qcl (by omega), h0, if_pos (nI_le (Nat.le_refl _) (by omega)), nI_add]
  · show f_X8_wettest_B23 _ _ _ _ _ _ _ _ _ = _
    unfold f_X8_wettest_B23
    simp only [L0, L1, L2, L3, L4, L5, L6, L7, L8, L9, L10, L11, L12, L13, L19, L20, L26, L31, L32, L33, L48, L49, L50, L51, L57, L59, L60, L61, L98, L99, L100, L108, L112, L115, L127, L128, L200, L201, L255, L256, L257, L400, L401, L420, L459, L999, L1000, L5940]
    rw [qck (by omega) (by omega), qcl (by omega), h0, if_pos (nI_le (Nat.le_refl _) (by omega))]
theorem m9n (k : Nat) (hk : k < 2147483648) : (-nI 9 : Int32) ≤ nI k := by
  rw [Int32.le_iff_toInt_le, nI_toInt hk, show (-nI 9 : Int32).toInt = -9 by decide]
  omega
theorem q_mwettest {n : Nat} {Y g : Nat → Nat} {s td : Nat → Int32} (hn : n ≤ 7) (h0 : td 0 = nI n) (hs : ∀ x, x < 49 → s x = nI (g x)) (hv : vg n g) (hY : ∀ j, j < n → Y j ≤ 99 ∧ td (5 + j) = nI (Y j)) : ∃ w m, f_X8_wettest td s = some w ∧ wt Y (yr Y g n) (fun q => q < n) w m := by
  have key : ∀ d i f w m, i + d = n → d < f → wt Y (yr Y g n) (fun q => q < i) w m → ∃ w' m', f_X8_wettest_L7 td s f w (nI m) (nI i) = some w' ∧ wt Y (yr Y g n) (fun q => q < n) w' m' := by
    intro d
    induction d with
    | zero =>
      intro i f w m hi hf hw
      obtain ⟨f, rfl⟩ : ∃ k, f = k + 1 := ⟨f - 1, by omega⟩
      have hi : i = n := by omega
      subst hi
      refine ⟨w, m, ?_, hw⟩
      show f_X8_wettest_B7 _ _ _ _ _ _ = _
      unfold f_X8_wettest_B7
      simp only [L0, L1, L2, L3, L4, L5, L6, L7, L8, L9, L10, L11, L12, L13, L19, L20, L26, L31, L32, L33, L48, L49, L50, L51, L57, L59, L60, L61, L98, L99, L100, L108, L112, L115, L127, L128, L200, L201, L255, L256, L257, L400, L401, L420, L459, L999, L1000, L5940]
      rw [qck (by omega) (by omega), qcl (by omega), h0, if_pos (nI_le (Nat.le_refl _) (by omega))]
    | succ d ih =>
      intro i f w m hi hf hw
      obtain ⟨f, rfl⟩ : ∃ k, f = k + 1 := ⟨f - 1, by omega⟩
      have hin : i < n := by omega
      have hYi := hY i hin
      have hyl := yr_le (Y := Y) hn hv (Y i)
      have hm : m ≤ 420 := by
        rcases hw with ⟨a1, -, -⟩ | ⟨q, -, -, a3, -, -⟩
        · omega
        · rw [a3]; exact yr_le hn hv _
      show ∃ w' m', f_X8_wettest_B7 _ _ _ _ _ _ = _ ∧ _
      unfold f_X8_wettest_B7
      simp only [L0, L1, L2, L3, L4, L5, L6, L7, L8, L9, L10, L11, L12, L13, L19, L20, L26, L31, L32, L33, L48, L49, L50, L51, L57, L59, L60, L61, L98, L99, L100, L108, L112, L115, L127, L128, L200, L201, L255, L256, L257, L400, L401, L420, L459, L999, L1000, L5940]
      rw [qck (by omega) (by omega), qcl (by omega), h0, if_neg (nI_ge hin (by omega)), q_mwet23 (Y := Y) (g := g) hn hin h0 hs hY]
      have keepit : yr Y g n (Y i) < m ∨ (yr Y g n (Y i) = m ∧ (m = 0 ∨ ∃ y, w = nI y ∧ y ≤ Y i)) → wt Y (yr Y g n) (fun q => q < i + 1) w m := by
        intro hc
        rcases hw with ⟨a1, a2, a3⟩ | ⟨q, j1, a2, a3, a4, a5⟩
        · refine Or.inl ⟨a1, a2, fun q hq => ?_⟩
          by_cases e : q = i
          · subst e; omega
          · exact a3 q (by omega)
        · have hqb := (hY q (by omega)).1
          refine Or.inr ⟨q, by omega, a2, a3, a4, fun x hx => ?_⟩
          by_cases e : x = i
          · subst e
            rcases hc with z | ⟨z1, z2 | ⟨y, z2, z3⟩⟩
            · exact Or.inl z
            · omega
            · refine Or.inr ⟨z1, ?_⟩
              rw [a2] at z2
              by_cases hy2 : y < 2147483648
              · have := (nI_eq (by omega) hy2).mp z2
                omega
              · omega
          · exact a5 x (by omega)
      have takeit : m < yr Y g n (Y i) ∨ (yr Y g n (Y i) = m ∧ 0 < m ∧ ∃ q, q < i ∧ w = nI (Y q) ∧ Y i < Y q) → wt Y (yr Y g n) (fun q => q < i + 1) (nI (Y i)) (yr Y g n (Y i)) := by
        intro hc
        refine Or.inr ⟨i, by omega, rfl, rfl, by omega, fun x hx => ?_⟩
        by_cases e : x = i
        · subst e; exact Or.inr ⟨rfl, Nat.le_refl _⟩
        · rcases hw with ⟨a1, a2, a3⟩ | ⟨q, j1, a2, a3, a4, a5⟩
          · have := a3 x (by omega); omega
          · rcases hc with z | ⟨z1, z2, q', z3, z4, z5⟩
            · rcases a5 x (by omega) with t | t
              · left; omega
              · left; omega
            · rw [a2] at z4
              have e2 := (nI_eq (by have := (hY q (by omega)).1; omega) (by have := (hY q' (by omega)).1; omega)).mp z4
              rcases a5 x (by omega) with t | t
              · left; omega
              · right; omega
      have E0 : f_X8_wettest_J136 td w (nI m) (nI i) (f_X8_wettest_L7 td s f) (nI (yr Y g n (Y i))) (nI 0) = f_X8_wettest_L7 td s f w (nI m) (nI (i + 1)) := by
        unfold f_X8_wettest_J136 f_X8_wettest_J155
        simp only [L0, L1, L2, L3, L4, L5, L6, L7, L8, L9, L10, L11, L12, L13, L19, L20, L26, L31, L32, L33, L48, L49, L50, L51, L57, L59, L60, L61, L98, L99, L100, L108, L112, L115, L127, L128, L200, L201, L255, L256, L257, L400, L401, L420, L459, L999, L1000, L5940]
        rw [if_pos trivial, if_pos trivial, nI_add]
      have E1 : f_X8_wettest_J136 td w (nI m) (nI i) (f_X8_wettest_L7 td s f) (nI (yr Y g n (Y i))) (nI 1) = f_X8_wettest_L7 td s f (nI (Y i)) (nI (yr Y g n (Y i))) (nI (i + 1)) := by
        unfold f_X8_wettest_J136 f_X8_wettest_J155
        simp only [L0, L1, L2, L3, L4, L5, L6, L7, L8, L9, L10, L11, L12, L13, L19, L20, L26, L31, L32, L33, L48, L49, L50, L51, L57, L59, L60, L61, L98, L99, L100, L108, L112, L115, L127, L128, L200, L201, L255, L256, L257, L400, L401, L420, L459, L999, L1000, L5940]
        rw [if_neg (show ¬ nI 1 = nI 0 by decide), nI_add, qck (by omega) (by omega), if_neg (show ¬ nI 1 = nI 0 by decide), qcl (by omega), hYi.2, nI_add]
      unfold f_X8_wettest_J102
      simp only [L0, L1, L2, L3, L4, L5, L6, L7, L8, L9, L10, L11, L12, L13, L19, L20, L26, L31, L32, L33, L48, L49, L50, L51, L57, L59, L60, L61, L98, L99, L100, L108, L112, L115, L127, L128, L200, L201, L255, L256, L257, L400, L401, L420, L459, L999, L1000, L5940]
      rw [E0, E1]
      by_cases c1 : m < yr Y g n (Y i)
      · rw [if_pos (nI_lt c1 (by omega))]
        exact ih (i + 1) f _ _ (by omega) (by omega) (takeit (Or.inl c1))
      rw [if_neg (nI_nlt (by omega) (by omega))]
      by_cases c2 : yr Y g n (Y i) = m
      · rw [if_pos (by rw [c2])]
        by_cases c3 : m = 0
        · rw [if_pos (by rw [c2, c3]; exact nI_le (Nat.le_refl _) (by omega))]
          exact ih (i + 1) f _ _ (by omega) (by omega) (keepit (Or.inr ⟨c2, Or.inl c3⟩))
        · rw [if_neg (by rw [nI_leI (by omega) (by omega)]; omega), nI_add, qck (by omega) (by omega), qcl (by omega), hYi.2]
          rcases hw with ⟨a1, -, -⟩ | ⟨q, j1, a2, a3, a4, a5⟩
          · omega
          · have hqb := (hY q (by omega)).1
            by_cases c4 : Y q ≤ Y i
            · rw [if_pos (by rw [a2]; exact nI_le c4 (by omega))]
              exact ih (i + 1) f _ _ (by omega) (by omega) (keepit (Or.inr ⟨c2, Or.inr ⟨Y q, a2, c4⟩⟩))
            · rw [if_neg (by rw [a2, nI_leI (by omega) (by omega)]; exact c4)]
              exact ih (i + 1) f _ _ (by omega) (by omega) (takeit (Or.inr ⟨c2, by omega, q, j1, a2, by omega⟩))
      · rw [if_neg (by rw [nI_eq (by omega) (by omega)]; exact c2)]
        exact ih (i + 1) f _ _ (by omega) (by omega) (keepit (Or.inl (by omega)))
  unfold f_X8_wettest
  simp only [L0, L1, L2, L3, L4, L5, L6, L7, L8, L9, L10, L11, L12, L13, L19, L20, L26, L31, L32, L33, L48, L49, L50, L51, L57, L59, L60, L61, L98, L99, L100, L108, L112, L115, L127, L128, L200, L201, L255, L256, L257, L400, L401, L420, L459, L999, L1000, L5940]
  exact key n 0 FU (-nI 9) 0 (by omega) (fu (by omega)) (Or.inl ⟨rfl, rfl, fun q hq => absurd hq (by omega)⟩)
theorem sim_now {n : Nat} {Y K T : Nat → Nat} {le sh : Nat} {hp hl hs : Int32} {hy hk ht hb td : Nat → Int32} (h : RH n Y K T le sh hp hl hs hy hk ht hb td) {kn nx : Int32} {rspr rlo : Nat → Int32} {rsp : Nat → Nat → Int32} {mk : Int32} {past : Nat → Int32} (hh : RHi n kn nx rspr rlo rsp mk past) {g : Nat → Nat} {a b : Nat} {sp : Nat → Int32} {spr lo : Int32} {s : Nat → Int32} (hR : RS n g a b sp spr lo s 0) (v : Int32) : ∃ o, f_X7_now kn spr lo hp hl hb hy sp hk v = some o ∧ f_X8_now mk td s v = some o := by
  obtain ⟨o, ho, hbo⟩ := h.srt
  obtain ⟨hn, hle, -, rfl, e0, rfl, e1l, rfl, -, hj, -⟩ := h
  obtain ⟨w1, w2, w3, w4, w5, w6, w7a, w7b⟩ := hR.get0
  obtain ⟨kn0, nx0, -, -, rfl, -, rfl, -⟩ := hh
  obtain ⟨wA, mA, x1, x2⟩ := q_wettest (Y := Y) hn ho hbo w7a w1 (fun j hj2 => ⟨(hj j hj2).1, (hj j hj2).2.2.2.1⟩)
  obtain ⟨wB, mB, x3, x4⟩ := q_mwettest (Y := Y) hn e0 w7b w1 (fun j hj2 => ⟨(hj j hj2).1, (hj j hj2).2.2.2.2.1⟩)
  have ew := wt_one x2 x4
  subst ew
  unfold f_X7_now f_X8_now
  simp only [L0, L1, L2, L3, L4, L5, L6, L7, L8, L9, L10, L11, L12, L13, L19, L20, L26, L31, L32, L33, L48, L49, L50, L51, L57, L59, L60, L61, L98, L99, L100, L108, L112, L115, L127, L128, L200, L201, L255, L256, L257, L400, L401, L420, L459, L999, L1000, L5940]
  rw [x1, x3, q_inAll hn w7a w1, q_all hn e0 w7b, q_readable (K := K) hn hle.2 ho hbo (fun p hp2 => (hj p hp2).2.2.2.2.2.1) w7a w1, q_allRead hn e0 hle.2 e1l w7b w1, qck (by omega) (by omega), qck (by omega) (by omega), qcl (by omega), qcl (by omega), w3, w4, w5, w6]
  by_cases h0 : v = nI 0
  · rw [if_pos h0]; exact ⟨_, rfl, rfl⟩
  rw [if_neg h0]
  by_cases h1 : v = nI 1
  · rw [if_pos h1]; exact ⟨_, rfl, rfl⟩
  rw [if_neg h1]
  by_cases h2 : v = nI 2
  · rw [if_pos h2]; exact ⟨_, rfl, rfl⟩
  rw [if_neg h2]
  by_cases h3 : v = nI 3
  · rw [if_pos h3]; exact ⟨_, rfl, rfl⟩
  rw [if_neg h3]
  by_cases h4 : v = nI 4
  · rw [if_pos h4]; exact ⟨_, rfl, rfl⟩
  rw [if_neg h4]
  by_cases h5 : v = nI 5
  · rw [if_pos h5]; exact ⟨_, rfl, rfl⟩
  rw [if_neg h5]
  exact ⟨_, rfl, rfl⟩
