/-! springs that go by -/
def IG (Y K : Nat → Nat) (n : Nat) : Nat → (Nat → Nat) → Nat → Nat
  | 0, g => g
  | m + 1, g => SG Y K n n (IG Y K n m g)
theorem vg_IG {n : Nat} {g : Nat → Nat} (h : vg n g) (Y K : Nat → Nat) : ∀ m, vg n (IG Y K n m g)
  | 0 => h
  | m + 1 => vg_SG (vg_IG h Y K m) Y K n
theorem IG_row {n : Nat} {Y K o : Nat → Nat} (ho : srt n Y o) (hn : n ≤ 7) (g : Nat → Nat) {p : Nat} (hp : p < n) : ∀ m q, q < n → IG Y K n m g (7 * p + q) = rs Y n (m * K p) (fun q => g (7 * p + q)) q
  | 0, q, _ => by rw [Nat.zero_mul, rs_0]; rfl
  | m + 1, q, hq => by
    show SG Y K n n (IG Y K n m g) (7 * p + q) = _
    rw [SG_row Y K hn _ hp hq n, if_pos hp, rs_cong (r' := rs Y n (m * K p) (fun q => g (7 * p + q))) (fun x hx => IG_row ho hn g hp m x hx) hq, rs_rs ho _ _ _ hq, show (m + 1) * K p = m * K p + K p from Nat.succ_mul _ _]
theorem IG_tot {n : Nat} {Y K o : Nat → Nat} (ho : srt n Y o) (hn : n ≤ 7) {g : Nat → Nat} (hv : vg n g) {p : Nat} (hp : p < n) (m : Nat) : tot (IG Y K n m g) p = tot g p - m * K p := by
  rw [← tot_n hn (vg_z (vg_IG hv Y K m) (show p < 7 by omega)), ← tot_n hn (vg_z hv (show p < 7 by omega)), sm_cong (f := fun q => IG Y K n m g (7 * p + q)) (g := rs Y n (m * K p) (fun q => g (7 * p + q))) (fun q hq => IG_row ho hn g hp m q hq)]
  exact rs_sm ho _ _
theorem q_canM {n le m p : Nat} {Y K o g : Nat → Nat} {hk hb sp : Nat → Int32} (hn : n ≤ 7) (hp : p < n) (hle : le ≤ 60) (ho : srt n Y o) (hbo : ∀ i, i < n → hb i = nI (o i)) (hK : K p ≤ 9 ∧ hk p = nI (K p)) (hm : m ≤ 1000) (hs : ∀ x, x < 49 → sp x = nI (g x)) (hv : vg n g) : f_X4_canBeReadIn (nI n) (nI le) hk hb sp (nI m) (nI p) = some (bI (rdb le (IG Y K n m g) p)) := by
  have hmk : m * K p ≤ 1000 * 9 := Nat.mul_le_mul hm hK.1
  exact q_canIn (K := K) hn hp hle ho hbo hK.2 (by omega) hs (fun x hx => vg_le hv hx) (fun q hq => IG_row ho hn g hp m q hq) (vg_z (vg_IG hv Y K m) (by omega)) (Nat.le_trans (tot_le (by omega)) (vg_IG hv Y K m).1)
theorem held_back {n : Nat} {g : Nat → Nat} {a b : Nat} {sp : Nat → Int32} {spr lo : Int32} {s : Nat → Int32} (hR : RS n g a b sp spr lo s 0) (held s' : Nat → Int32) : RS n g a b sp spr lo (cpy (cpy s held 0 0 51) s' 0 0 51) 0 := hR.copy (fun x hx => rfl) (fun x hx => by
  have h1 := cpy_in (cpy s held 0 0 51) s' 0 0 51 hx
  have h2 := cpy_in s held 0 0 51 hx
  rw [Nat.zero_add] at h1 h2 ⊢
  rw [h1, h2])
theorem m9ne (k : Nat) (hk : k < 2147483648) : ¬ nI k = (-nI 9) := by
  intro e
  have := congrArg Int32.toInt e
  rw [nI_toInt hk, show (-nI 9 : Int32).toInt = -9 by decide] at this
  omega
theorem sim_lasts {n : Nat} {Y K T : Nat → Nat} {le sh : Nat} {hp hl hs : Int32} {hy hk ht hb td : Nat → Int32} (h : RH n Y K T le sh hp hl hs hy hk ht hb td) {g : Nat → Nat} {a b : Nat} {sp : Nat → Int32} {spr lo : Int32} {s : Nat → Int32} (hR : RS n g a b sp spr lo s 0) (held : Nat → Int32) (v1 : Int32) : ∃ o1 o2, f_X7_lasts hp hl hk hb sp v1 = some o1 ∧ f_X8_lasts td s held v1 = some o2 ∧ o1 = o2.1 ∧ RS n g a b sp spr lo o2.2.1 0 := by
  obtain ⟨o, ho, hbo⟩ := h.srt
  obtain ⟨hn, hle, -, rfl, e0, rfl, e1l, rfl, -, hj, -⟩ := h
  obtain ⟨w1, w2, w3, w4, w5, w6, w7a, w7b⟩ := hR.get0
  unfold f_X7_lasts f_X8_lasts
  simp only [L0, L1, L2, L3, L4, L5, L6, L7, L8, L9, L10, L11, L12, L13, L19, L20, L26, L31, L32, L33, L48, L49, L50, L51, L57, L59, L60, L61, L98, L99, L100, L108, L112, L115, L127, L128, L200, L201, L255, L256, L257, L400, L401, L420, L459, L999, L1000, L5940]
  rcases pan_cases v1 hn e0 with ⟨e1, e2⟩ | ⟨p, hpn, rfl, e1, e2⟩
  · rw [e1, e2]
    simp (disch := omega) only [L0, L1, L2, L3, L4, L5, L6, L7, L8, L9, L10, L11, L12, L13, L19, L20, L26, L31, L32, L33, L48, L49, L50, L51, L57, L59, L60, L61, L98, L99, L100, L108, L112, L115, L127, L128, L200, L201, L255, L256, L257, L400, L401, L420, L459, L999, L1000, L5940, nI_add, pk_mul, qle, qlt, qeq, qcl, qck, qbd, qsub, if_pos, if_neg]
    exact ⟨_, _, rfl, rfl, rfl, hR⟩
  rw [e1, e2, qbd, qbd, if_neg (show ¬ nI 1 = nI 0 by decide), if_neg (show ¬ nI 1 = nI 0 by decide), q_remembers, qbd]
  have hY : ∀ j, j < n → Y j ≤ 99 ∧ td (5 + j) = nI (Y j) := fun j hj2 => ⟨(hj j hj2).1, (hj j hj2).2.2.2.2.1⟩
  have hK : ∀ j, j < n → K j ≤ 9 ∧ td (19 + j) = nI (K j) := fun j hj2 => ⟨(hj j hj2).2.1, (hj j hj2).2.2.2.2.2.2.1⟩
  have fin : ∀ (f : Nat) (w v : Int32) (s1 : Nat → Int32), (¬ w = -nI 9 ∨ v = nI 401) → ∃ s', f_X8_lasts_L19 td (nI p) (cpy s held 0 0 51) (f + 1) w v s1 = some (w, cpy (cpy s held 0 0 51) s1 0 0 51, s') := by
    intro f w v s1 hc
    show ∃ s', f_X8_lasts_B19 _ _ _ _ _ _ _ = _
    unfold f_X8_lasts_B19
    simp only [L0, L1, L2, L3, L4, L5, L6, L7, L8, L9, L10, L11, L12, L13, L19, L20, L26, L31, L32, L33, L48, L49, L50, L51, L57, L59, L60, L61, L98, L99, L100, L108, L112, L115, L127, L128, L200, L201, L255, L256, L257, L400, L401, L420, L459, L999, L1000, L5940]
    simp only [q_lets, qbd]
    by_cases c : nI 401 ≤ v
    · rw [if_pos c]; exact ⟨_, rfl⟩
    · rw [if_neg c]
      rcases hc with c2 | c2
      · rw [if_neg c2]; exact ⟨_, rfl⟩
      · rw [c2] at c; exact absurd (nI_le (Nat.le_refl _) (by omega)) c
  have key : ∀ d m f1 f2 (s1 : Nat → Int32) a1 b1, m + d = 401 → d < f1 → d + 1 < f2 → (∀ x, x < 49 → s1 x = nI (IG Y K n m g x)) → s1 49 = nI a1 → s1 50 = nI b1 →
      ∃ r s' s'', f_X7_lasts_L15 (nI n) (nI le) hk hb sp (nI p) f1 (nI m) = some r ∧ f_X8_lasts_L19 td (nI p) (cpy s held 0 0 51) f2 (-nI 9) (nI m) s1 = some (r, cpy (cpy s held 0 0 51) s' 0 0 51, s'') := by
    intro d
    induction d with
    | zero =>
      intro m f1 f2 s1 a1 b1 hm hf1 hf2 h1 h2 h3
      obtain ⟨f1, rfl⟩ : ∃ k, f1 = k + 1 := ⟨f1 - 1, by omega⟩
      obtain ⟨f2, rfl⟩ : ∃ k, f2 = k + 1 := ⟨f2 - 1, by omega⟩
      obtain ⟨s'', e⟩ := fin f2 (-nI 9) (nI m) s1 (Or.inr (by rw [show m = 401 by omega]))
      refine ⟨-nI 9, s1, s'', ?_, e⟩
      show f_X7_lasts_B15 _ _ _ _ _ _ _ _ = _
      unfold f_X7_lasts_B15
      simp only [L0, L1, L2, L3, L4, L5, L6, L7, L8, L9, L10, L11, L12, L13, L19, L20, L26, L31, L32, L33, L48, L49, L50, L51, L57, L59, L60, L61, L98, L99, L100, L108, L112, L115, L127, L128, L200, L201, L255, L256, L257, L400, L401, L420, L459, L999, L1000, L5940]
      rw [if_pos (nI_lt (by omega) (by omega))]
    | succ d ih =>
      intro m f1 f2 s1 a1 b1 hm hf1 hf2 h1 h2 h3
      obtain ⟨f1, rfl⟩ : ∃ k, f1 = k + 1 := ⟨f1 - 1, by omega⟩
      obtain ⟨f2, rfl⟩ : ∃ k, f2 = k + 1 + 1 := ⟨f2 - 2, by omega⟩
      have hvm := vg_IG w1 Y K m
      obtain ⟨s2, t1, t2, t3, t4⟩ := q_springs (Y := Y) (K := K) hn ho e0 hY hK hvm h1 h2 h3
      show ∃ r s' s'', f_X7_lasts_B15 _ _ _ _ _ _ _ _ = _ ∧ f_X8_lasts_B19 _ _ _ _ _ _ _ = _
      unfold f_X7_lasts_B15 f_X8_lasts_B19 f_X8_lasts_J46
      simp only [L0, L1, L2, L3, L4, L5, L6, L7, L8, L9, L10, L11, L12, L13, L19, L20, L26, L31, L32, L33, L48, L49, L50, L51, L57, L59, L60, L61, L98, L99, L100, L108, L112, L115, L127, L128, L200, L201, L255, L256, L257, L400, L401, L420, L459, L999, L1000, L5940]
      rw [if_neg (nI_nlt (by omega) (by omega)), q_canM (Y := Y) (K := K) hn hpn hle.2 ho hbo ⟨(hj p hpn).2.1, (hj p hpn).2.2.2.2.2.1⟩ (by omega) w7a w1, qbd, if_neg (show ¬ nI 401 ≤ nI m by rw [nI_leI (by omega) (by omega)]; omega), if_pos trivial, q_isRead (le := le) (show p < 7 by omega) hle.2 e1l h1 (vg_le hvm (by omega)) (Nat.le_trans (tot_le (by omega)) hvm.1), qbd, t1, qbd, qbd, nI_add]
      cases rdb le (IG Y K n m g) p with
      | false =>
        simp only [if_pos (show bI false = nI 0 from rfl)]
        obtain ⟨s'', e⟩ := fin f2 (nI m) (nI (m + 1)) s2 (Or.inl (m9ne m (by omega)))
        exact ⟨nI m, s2, s'', rfl, e⟩
      | true =>
        simp only [if_neg (show ¬ bI true = nI 0 by decide)]
        exact ih (m + 1) f1 (f2 + 1) s2 (a1 + 1) _ (by omega) (by omega) (by omega) t2 t3 t4
  obtain ⟨r, s', s'', k1, k2⟩ := key 401 0 FU FU s a b (by omega) (fu (by omega)) (fu (by omega)) w7b w4 w6
  rw [k1, k2]
  exact ⟨_, _, rfl, rfl, rfl, held_back hR held s'⟩
theorem cnt_s (P : Nat → Bool) (i : Nat) : cnt P (i + 1) = cnt P i + (match P i with
  | true => 1
  | false => 0) := rfl
theorem q_countIn {n le m : Nat} {Y K o g : Nat → Nat} {hk hb sp : Nat → Int32} (hn : n ≤ 7) (hle : le ≤ 60) (ho : srt n Y o) (hbo : ∀ i, i < n → hb i = nI (o i)) (hK : ∀ p, p < n → K p ≤ 9 ∧ hk p = nI (K p)) (hm : m ≤ 1000) (hs : ∀ x, x < 49 → sp x = nI (g x)) (hv : vg n g) : f_X7_countReadableIn (nI n) (nI le) hk hb sp (nI m) = some (nI (cnt (rdb le (IG Y K n m g)) n)) := by
  unfold f_X7_countReadableIn
  simp only [L0, L1, L2, L3, L4, L5, L6, L7, L8, L9, L10, L11, L12, L13, L19, L20, L26, L31, L32, L33, L48, L49, L50, L51, L57, L59, L60, L61, L98, L99, L100, L108, L112, L115, L127, L128, L200, L201, L255, L256, L257, L400, L401, L420, L459, L999, L1000, L5940]
  refine lup (fun q f => f_X7_countReadableIn_L4 (nI n) (nI le) hk hb sp (nI m) f (nI (cnt (rdb le (IG Y K n m g)) q)) (nI q)) n _ (fun q f hq => ?_) (fun f => ?_) 0 FU (by omega) (fu (by omega))
  · show f_X7_countReadableIn_B4 _ _ _ _ _ _ _ _ _ = _
    unfold f_X7_countReadableIn_B4
    simp only [L0, L1, L2, L3, L4, L5, L6, L7, L8, L9, L10, L11, L12, L13, L19, L20, L26, L31, L32, L33, L48, L49, L50, L51, L57, L59, L60, L61, L98, L99, L100, L108, L112, L115, L127, L128, L200, L201, L255, L256, L257, L400, L401, L420, L459, L999, L1000, L5940]
    rw [if_neg (nI_ge hq (by omega)), q_canM (Y := Y) (K := K) hn hq hle ho hbo (hK q hq) hm hs hv, qbd, nI_add, nI_add, cnt_s]
    cases rdb le (IG Y K n m g) q with
    | true => rw [if_neg (show ¬ bI true = nI 0 by decide)]
    | false => rw [if_pos (show bI false = nI 0 from rfl)]; rfl
  · show f_X7_countReadableIn_B4 _ _ _ _ _ _ _ _ _ = _
    unfold f_X7_countReadableIn_B4
    rw [if_pos (nI_le (Nat.le_refl _) (by omega))]
theorem q_after {hk : Nat → Int32} {K : Nat → Nat} {p T m : Nat} (hp : p < 7) (hK : K p ≤ 9 ∧ hk p = nI (K p)) (hT : T ≤ 420) (hm : m ≤ 1000) : f_X7_afterSprings hk (nI T) (nI m) (nI p) = some (nI (T - m * K p)) := by
  have hmk : m * K p ≤ 1000 * 9 := Nat.mul_le_mul hm hK.1
  unfold f_X7_afterSprings
  simp only [L0, L1, L2, L3, L4, L5, L6, L7, L8, L9, L10, L11, L12, L13, L19, L20, L26, L31, L32, L33, L48, L49, L50, L51, L57, L59, L60, L61, L98, L99, L100, L108, L112, L115, L127, L128, L200, L201, L255, L256, L257, L400, L401, L420, L459, L999, L1000, L5940]
  rw [qck hp (by omega), qcl (by omega), hK.2, pk_mul]
  by_cases c : m * K p < T
  · rw [qsub (by omega), if_pos (nI_lt (by omega) (by omega))]
  · have h0 : ¬ nI 0 < nI T - nI (m * K p) := by
      rw [Int32.lt_iff_toInt_lt, pk_sub_toInt (by omega) (by omega), nI_toInt (by omega)]
      omega
    rw [if_neg h0, show T - m * K p = 0 by omega]
theorem sim_inSprings {n : Nat} {Y K T : Nat → Nat} {le sh : Nat} {hp hl hs : Int32} {hy hk ht hb td : Nat → Int32} (h : RH n Y K T le sh hp hl hs hy hk ht hb td) {g : Nat → Nat} {a b : Nat} {sp : Nat → Int32} {spr lo : Int32} {s : Nat → Int32} (hR : RS n g a b sp spr lo s 0) (held : Nat → Int32) (v1 v2 : Int32) : ∃ o1 o2, f_X7_inSprings hp hl hk hb sp v1 v2 = some o1 ∧ f_X8_inSprings td s held v1 v2 = some o2 ∧ o1 = o2.1 ∧ RS n g a b sp spr lo o2.2.1 0 := by
  obtain ⟨o, ho, hbo⟩ := h.srt
  obtain ⟨hn, hle, -, rfl, e0, rfl, e1l, rfl, -, hj, -⟩ := h
  obtain ⟨w1, w2, w3, w4, w5, w6, w7a, w7b⟩ := hR.get0
  unfold f_X7_inSprings f_X8_inSprings
  simp only [L0, L1, L2, L3, L4, L5, L6, L7, L8, L9, L10, L11, L12, L13, L19, L20, L26, L31, L32, L33, L48, L49, L50, L51, L57, L59, L60, L61, L98, L99, L100, L108, L112, L115, L127, L128, L200, L201, L255, L256, L257, L400, L401, L420, L459, L999, L1000, L5940]
  rcases in_cases v1 (a := 0) (b := 200) (by omega) (by omega) with ⟨e1, e2⟩ | ⟨m, -, hm, rfl, e1, e2⟩
  · rw [e1, e2]
    simp (disch := omega) only [L0, L1, L2, L3, L4, L5, L6, L7, L8, L9, L10, L11, L12, L13, L19, L20, L26, L31, L32, L33, L48, L49, L50, L51, L57, L59, L60, L61, L98, L99, L100, L108, L112, L115, L127, L128, L200, L201, L255, L256, L257, L400, L401, L420, L459, L999, L1000, L5940, nI_add, pk_mul, qle, qlt, qeq, qcl, qck, qbd, qsub, if_pos, if_neg]
    exact ⟨_, _, rfl, rfl, rfl, hR⟩
  rw [e1, e2, qbd, qbd, if_neg (show ¬ nI 1 = nI 0 by decide), if_neg (show ¬ nI 1 = nI 0 by decide), q_remembers, qbd]
  have hY : ∀ j, j < n → Y j ≤ 99 ∧ td (5 + j) = nI (Y j) := fun j hj2 => ⟨(hj j hj2).1, (hj j hj2).2.2.2.2.1⟩
  have hK : ∀ j, j < n → K j ≤ 9 ∧ td (19 + j) = nI (K j) := fun j hj2 => ⟨(hj j hj2).2.1, (hj j hj2).2.2.2.2.2.2.1⟩
  have key : ∀ (v2 : Int32) d i f (s1 : Nat → Int32) a1 b1, i + d = m → d < f → (∀ x, x < 49 → s1 x = nI (IG Y K n i g x)) → s1 49 = nI a1 → s1 50 = nI b1 →
      ∃ s2, (∀ x, x < 49 → s2 x = nI (IG Y K n m g x)) ∧ f_X8_inSprings_L32 td (nI m) v2 (cpy s held 0 0 51) f (nI i) s1 = f_X8_inSprings_J48 td v2 s2 (cpy s held 0 0 51) := by
    intro v2 d
    induction d with
    | zero =>
      intro i f s1 a1 b1 hi hf h1 h2 h3
      obtain ⟨f, rfl⟩ : ∃ k, f = k + 1 := ⟨f - 1, by omega⟩
      have hi : i = m := by omega
      subst hi
      refine ⟨s1, h1, ?_⟩
      show f_X8_inSprings_B32 _ _ _ _ _ _ _ = _
      unfold f_X8_inSprings_B32
      rw [if_pos (nI_le (Nat.le_refl _) (by omega))]
    | succ d ih =>
      intro i f s1 a1 b1 hi hf h1 h2 h3
      obtain ⟨f, rfl⟩ : ∃ k, f = k + 1 := ⟨f - 1, by omega⟩
      obtain ⟨s2, t1, t2, t3, t4⟩ := q_springs (Y := Y) (K := K) hn ho e0 hY hK (vg_IG w1 Y K i) h1 h2 h3
      obtain ⟨s3, u1, u2⟩ := ih (i + 1) f s2 _ _ (by omega) (by omega) t2 t3 t4
      refine ⟨s3, u1, ?_⟩
      show f_X8_inSprings_B32 _ _ _ _ _ _ _ = _
      unfold f_X8_inSprings_B32
      simp only [L0, L1, L2, L3, L4, L5, L6, L7, L8, L9, L10, L11, L12, L13, L19, L20, L26, L31, L32, L33, L48, L49, L50, L51, L57, L59, L60, L61, L98, L99, L100, L108, L112, L115, L127, L128, L200, L201, L255, L256, L257, L400, L401, L420, L459, L999, L1000, L5940]
      rw [if_neg (nI_ge (show i < m by omega) (by omega)), t1, qbd, nI_add]
      exact u2
  by_cases c : v2 = -nI 1
  · subst c
    obtain ⟨s2, k1, k2⟩ := key (-nI 1) m 0 FU s a b (by omega) (fu (by omega)) w7b w4 w6
    rw [if_pos (rfl : (-nI 1 : Int32) = -nI 1), if_pos (rfl : (-nI 1 : Int32) = -nI 1), k2, q_countIn (Y := Y) (K := K) hn hle.2 ho hbo (fun p hp2 => ⟨(hj p hp2).2.1, (hj p hp2).2.2.2.2.2.1⟩) (by omega) w7a w1]
    unfold f_X8_inSprings_J48
    simp only [L0, L1, L2, L3, L4, L5, L6, L7, L8, L9, L10, L11, L12, L13, L19, L20, L26, L31, L32, L33, L48, L49, L50, L51, L57, L59, L60, L61, L98, L99, L100, L108, L112, L115, L127, L128, L200, L201, L255, L256, L257, L400, L401, L420, L459, L999, L1000, L5940]
    rw [if_neg (show ¬ nI 0 ≤ -nI 1 by decide), q_allRead hn e0 hle.2 e1l k1 (vg_IG w1 Y K m), qbd, qbd, q_ones (by have := orb_lt7 (rdb le (IG Y K n m g)) hn; omega), pc_orb _ hn, qbd, q_lets, qbd]
    exact ⟨_, _, rfl, rfl, rfl, held_back hR held s2⟩
  · rw [if_neg c, if_neg c]
    rcases pan_cases v2 hn e0 with ⟨e3, e4⟩ | ⟨p, hpn, rfl, e3, e4⟩
    · rw [e3, e4]
      simp (disch := omega) only [L0, L1, L2, L3, L4, L5, L6, L7, L8, L9, L10, L11, L12, L13, L19, L20, L26, L31, L32, L33, L48, L49, L50, L51, L57, L59, L60, L61, L98, L99, L100, L108, L112, L115, L127, L128, L200, L201, L255, L256, L257, L400, L401, L420, L459, L999, L1000, L5940, nI_add, pk_mul, qle, qlt, qeq, qcl, qck, qbd, qsub, if_pos, if_neg]
      exact ⟨_, _, rfl, rfl, rfl, hR⟩
    · obtain ⟨s2, k1, k2⟩ := key (nI p) m 0 FU s a b (by omega) (fu (by omega)) w7b w4 w6
      have hTb : tot g p ≤ 420 := Nat.le_trans (tot_le (by omega)) w1.1
      rw [e3, e4, qbd, qbd, if_neg (show ¬ nI 1 = nI 0 by decide), if_neg (show ¬ nI 1 = nI 0 by decide), k2, q_inPan w7a hn (by omega) (vg_z w1 (by omega)), qbd, q_after (K := K) (show p < 7 by omega) ⟨(hj p hpn).2.1, (hj p hpn).2.2.2.2.2.1⟩ hTb (by omega), qbd]
      unfold f_X8_inSprings_J48
      simp only [L0, L1, L2, L3, L4, L5, L6, L7, L8, L9, L10, L11, L12, L13, L19, L20, L26, L31, L32, L33, L48, L49, L50, L51, L57, L59, L60, L61, L98, L99, L100, L108, L112, L115, L127, L128, L200, L201, L255, L256, L257, L400, L401, L420, L459, L999, L1000, L5940]
      rw [if_pos (nI_le (Nat.zero_le _) (by omega)), q_full k1 (by omega), qbd, q_lets, qbd, IG_tot ho hn w1 hpn m]
      exact ⟨_, _, rfl, rfl, rfl, held_back hR held s2⟩
