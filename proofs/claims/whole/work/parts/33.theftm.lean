theorem q_mtheft46 {n p : Nat} {g : Nat → Nat} {So : Nat → Nat → Bool} {td mn mv : Nat → Int32} {mm : Int32} {s0 : Nat → Int32} {b : Nat} {Y o : Nat → Nat} {k29 : Int32 → Int32 → Int32 → Int32 → (Nat → Int32) → (Nat → Int32) → Option (Int32 × (Nat → Int32) × (Nat → Int32))} (hn : n ≤ 7) (hp : p < n) (ho : srt n Y o) (hY : ∀ j, j < n → Y j ≤ 99 ∧ td (5 + j) = nI (Y j)) (hv : vg n g) (h0 : ∀ x, x < 49 → s0 x = nI (g x)) (h50 : s0 50 = nI b)
    (hso : ∀ k (s : Nat → Int32), k ≤ tot g p → (∀ x, x < 49 → s x = nI (gone Y n k p g x)) → f_X8_isSo mm mn s td mv = some (bI (So p k))) :
    ∀ k f cn (D : Option Nat) bt (s held : Nat → Int32), k ≤ 20 → k < f → (∀ x, x < 51 → s x = s0 x) →
      ∃ s' held', (∀ x, x < 51 → s' x = s0 x) ∧ f_X8_theft_L46 mm td mn mv (nI p) k29 (nI (tot g p)) f (nI cn) (fo D) (nI bt) (nI k) s held = k29 (nI (cn + sm (tn g So p) (k + 1))) (fo ((fuo (tf g So p) (k + 1)).or D)) (nI (bt ||| lo (tb g So p) (k + 1))) (nI p + -nI 1) s' held' := by
  have hT : tot g p ≤ 420 := Nat.le_trans (tot_le (by omega)) hv.1
  have hz := vg_z hv (show p < 7 by omega)
  have hTn := tot_n hn hz
  intro k
  induction k with
  | zero =>
    intro f cn D bt s held hk hf hs
    obtain ⟨f, rfl⟩ : ∃ k, f = k + 1 := ⟨f - 1, by omega⟩
    have hh : hit g So p 0 = false := hit_no (by omega)
    refine ⟨s, held, hs, ?_⟩
    have e1 : sm (tn g So p) (0 + 1) = 0 := by show 0 + tn g So p 0 = 0; unfold tn; rw [hh]; rfl
    have e2 : fuo (tf g So p) (0 + 1) = none := by show (none : Option Nat).or (tf g So p 0) = none; unfold tf; rw [hh]; rfl
    have e3 : lo (tb g So p) (0 + 1) = 0 := by show 0 ||| tb g So p 0 = 0; unfold tb; rw [hh, if_neg (by decide), Nat.or_zero]
    rw [e1, e2, e3, Nat.or_zero]
    show f_X8_theft_B46 _ _ _ _ _ _ _ _ _ _ _ _ _ _ = _
    unfold f_X8_theft_B46
    simp only [L0, L1, L2, L3, L4, L5, L6, L7, L8, L9, L10, L11, L12, L13, L19, L20, L26, L31, L32, L33, L48, L49, L50, L51, L57, L59, L60, L61, L98, L99, L100, L108, L112, L115, L127, L128, L200, L201, L255, L256, L257, L400, L401, L420, L459, L999, L1000, L5940]
    rw [if_pos (nI_le (Nat.le_refl _) (by omega))]
    rfl
  | succ k ih =>
    intro f cn D bt s held hk hf hs
    obtain ⟨f, rfl⟩ : ∃ k, f = k + 1 := ⟨f - 1, by omega⟩
    have e1 : sm (tn g So p) (k + 1 + 1) = sm (tn g So p) (k + 1) + tn g So p (k + 1) := rfl
    have e2 : fuo (tf g So p) (k + 1 + 1) = (fuo (tf g So p) (k + 1)).or (tf g So p (k + 1)) := rfl
    have e3 : lo (tb g So p) (k + 1 + 1) = lo (tb g So p) (k + 1) ||| tb g So p (k + 1) := rfl
    rw [e1, e2, e3]
    show ∃ s' held', _ ∧ f_X8_theft_B46 _ _ _ _ _ _ _ _ _ _ _ _ _ _ = _
    unfold f_X8_theft_B46
    simp only [L0, L1, L2, L3, L4, L5, L6, L7, L8, L9, L10, L11, L12, L13, L19, L20, L26, L31, L32, L33, L48, L49, L50, L51, L57, L59, L60, L61, L98, L99, L100, L108, L112, L115, L127, L128, L200, L201, L255, L256, L257, L400, L401, L420, L459, L999, L1000, L5940]
    rw [if_neg (by rw [nI_leI (by omega) (by omega)]; omega), dnI_s]
    by_cases c : tot g p < k + 1
    · have hh : hit g So p (k + 1) = false := hit_no (by omega)
      have t1 : tn g So p (k + 1) = 0 := by unfold tn; rw [hh]; rfl
      have t2 : tf g So p (k + 1) = none := by unfold tf; rw [hh]; rfl
      have t3 : tb g So p (k + 1) = 0 := by unfold tb; rw [hh]; rfl
      rw [if_pos (nI_lt c (by omega)), t1, t2, t3, or_none', Nat.or_zero]
      exact ih f cn D bt s held (by omega) (by omega) hs
    · have hh : hit g So p (k + 1) = So p (k + 1) := by
        unfold hit
        rw [decide_eq_true (by omega)]
        rfl
      have hs49 : ∀ x, x < 49 → s x = nI (g x) := fun x hx => (hs x (by omega)).trans (h0 x hx)
      obtain ⟨s2, g1, g2, g3, g4⟩ := goes_gone (b := b) (k := k + 1) hn (show p < 7 by omega) ho hY hz (fun x hx => vg_le hv hx) (by omega) (by omega) hs49 ((hs 50 (by omega)).trans h50)
      simp only [L0, L1, L2, L3, L4, L5, L6, L7, L8, L9, L10, L11, L12, L13, L19, L20, L26, L31, L32, L33, L48, L49, L50, L51, L57, L59, L60, L61, L98, L99, L100, L108, L112, L115, L127, L128, L200, L201, L255, L256, L257, L400, L401, L420, L459, L999, L1000, L5940] at g1
      have hs' : ∀ x, x < 51 → cpy (cpy s held 0 0 51) s2 0 0 51 x = s0 x := fun x hx => by
        have h1 := cpy_in (cpy s held 0 0 51) s2 0 0 51 hx
        have h2 := cpy_in s held 0 0 51 hx
        rw [Nat.zero_add] at h1 h2
        rw [h1, h2, hs x hx]
      rw [if_neg (nI_nlt (by omega) (by omega)), q_remembers, qbd, g1, qbd, hso (k + 1) s2 (by omega) g2, qbd, q_lets, qbd]
      cases hS : So p (k + 1) with
      | false =>
        have t1 : tn g So p (k + 1) = 0 := by unfold tn; rw [hh, hS]; rfl
        have t2 : tf g So p (k + 1) = none := by unfold tf; rw [hh, hS]; rfl
        have t3 : tb g So p (k + 1) = 0 := by unfold tb; rw [hh, hS]; rfl
        rw [if_pos (show bI false = nI 0 from rfl), t1, t2, t3, or_none', Nat.or_zero]
        unfold f_X8_theft_J93 f_X8_theft_J112
        simp only [L0, L1, L2, L3, L4, L5, L6, L7, L8, L9, L10, L11, L12, L13, L19, L20, L26, L31, L32, L33, L48, L49, L50, L51, L57, L59, L60, L61, L98, L99, L100, L108, L112, L115, L127, L128, L200, L201, L255, L256, L257, L400, L401, L420, L459, L999, L1000, L5940]
        rw [if_pos (show bI false = nI 0 from rfl), if_pos (show bI false = nI 0 from rfl), nI_add, fa_or, Nat.or_zero, dnI_s]
        exact ih f cn D bt _ _ (by omega) (by omega) hs'
      | true =>
        have t1 : tn g So p (k + 1) = 1 := by unfold tn; rw [hh, hS]; rfl
        have t2 : tf g So p (k + 1) = some (100 * p + (k + 1)) := by unfold tf; rw [hh, hS]; rfl
        have t3 : tb g So p (k + 1) = 2 ^ p := by unfold tb; rw [hh, hS]; rfl
        rw [if_neg (show ¬ bI true = nI 0 by decide), t1, t2, t3]
        unfold f_X8_theft_J93 f_X8_theft_J112
        simp only [L0, L1, L2, L3, L4, L5, L6, L7, L8, L9, L10, L11, L12, L13, L19, L20, L26, L31, L32, L33, L48, L49, L50, L51, L57, L59, L60, L61, L98, L99, L100, L108, L112, L115, L127, L128, L200, L201, L255, L256, L257, L400, L401, L420, L459, L999, L1000, L5940]
        rw [if_neg (show ¬ bI true = nI 0 by decide), if_neg (show ¬ bI true = nI 0 by decide), nI_add, shl1 p (by omega), fa_or, dnI_s, pk_mul, nI_add]
        obtain ⟨s3, held3, u1, u2⟩ := ih f (cn + 1) (some (100 * p + (k + 1))) (bt ||| 2 ^ p) _ _ (by omega) (by omega) hs'
        refine ⟨s3, held3, u1, ?_⟩
        show f_X8_theft_L46 mm td mn mv (nI p) k29 (nI (tot g p)) f (nI (cn + 1)) (fo (some (100 * p + (k + 1)))) (nI (bt ||| 2 ^ p)) (nI k) _ _ = _
        rw [u2, or_asc, show cn + 1 + sm (tn g So p) (k + 1) = cn + (sm (tn g So p) (k + 1) + 1) by omega, Nat.or_assoc, Nat.or_comm (2 ^ p)]
        rfl
theorem q_mtheft {n : Nat} {g : Nat → Nat} {So : Nat → Nat → Bool} {td mn mv : Nat → Int32} {mm v1 : Int32} {s0 : Nat → Int32} {b : Nat} {Y o : Nat → Nat} (hn : n ≤ 7) (ho : srt n Y o) (hY : ∀ j, j < n → Y j ≤ 99 ∧ td (5 + j) = nI (Y j)) (hv : vg n g) (h0 : ∀ x, x < 49 → s0 x = nI (g x)) (h50 : s0 50 = nI b)
    (hso : ∀ p k (s : Nat → Int32), p < n → k ≤ tot g p → (∀ x, x < 49 → s x = nI (gone Y n k p g x)) → f_X8_isSo mm mn s td mv = some (bI (So p k))) :
    ∀ c f cn (D : Option Nat) bt (s held : Nat → Int32), c ≤ n → c < f → (∀ x, x < 51 → s x = s0 x) →
      ∃ s' held', (∀ x, x < 51 → s' x = s0 x) ∧ f_X8_theft_L29 mm td mn mv v1 f (nI cn) (fo D) (nI bt) (dnI c) s held = f_X8_theft_J143 v1 (nI (cn + sm (fun p => sm (tn g So p) 21) c)) (fo ((fuo (fun p => fuo (tf g So p) 21) c).or D)) (nI (bt ||| lo (fun p => lo (tb g So p) 21) c)) s' held' := by
  intro c
  induction c with
  | zero =>
    intro f cn D bt s held hc hf hs
    obtain ⟨f, rfl⟩ : ∃ k, f = k + 1 := ⟨f - 1, by omega⟩
    refine ⟨s, held, hs, ?_⟩
    show f_X8_theft_B29 _ _ _ _ _ _ _ _ _ _ _ _ = f_X8_theft_J143 v1 (nI (cn + 0)) (fo ((none : Option Nat).or D)) (nI (bt ||| 0)) s held
    unfold f_X8_theft_B29
    simp only [L0, L1, L2, L3, L4, L5, L6, L7, L8, L9, L10, L11, L12, L13, L19, L20, L26, L31, L32, L33, L48, L49, L50, L51, L57, L59, L60, L61, L98, L99, L100, L108, L112, L115, L127, L128, L200, L201, L255, L256, L257, L400, L401, L420, L459, L999, L1000, L5940]
    rw [if_pos dnI_0, Nat.or_zero]
    rfl
  | succ c ih =>
    intro f cn D bt s held hc hf hs
    obtain ⟨f, rfl⟩ : ∃ k, f = k + 1 := ⟨f - 1, by omega⟩
    have hs49 : ∀ x, x < 49 → s x = nI (g x) := fun x hx => (hs x (by omega)).trans (h0 x hx)
    obtain ⟨s2, held2, u1, u2⟩ := q_mtheft46 (k29 := f_X8_theft_L29 mm td mn mv v1 f) hn (show c < n by omega) ho hY hv h0 h50 (fun k s => hso c k s (by omega)) 20 FU cn D bt s held (by omega) (fu (by omega)) hs
    obtain ⟨s3, held3, u3, u4⟩ := ih f (cn + sm (tn g So c) (20 + 1)) ((fuo (tf g So c) (20 + 1)).or D) (bt ||| lo (tb g So c) (20 + 1)) s2 held2 (by omega) (by omega) u1
    refine ⟨s3, held3, u3, ?_⟩
    show f_X8_theft_B29 _ _ _ _ _ _ _ _ _ _ _ _ = _
    unfold f_X8_theft_B29
    simp only [L0, L1, L2, L3, L4, L5, L6, L7, L8, L9, L10, L11, L12, L13, L19, L20, L26, L31, L32, L33, L48, L49, L50, L51, L57, L59, L60, L61, L98, L99, L100, L108, L112, L115, L127, L128, L200, L201, L255, L256, L257, L400, L401, L420, L459, L999, L1000, L5940]
    rw [if_neg (dnI_p c (by omega))]
    show bd (f_X8_full s (nI c)) (fun u5 => f_X8_theft_L46 mm td mn mv (nI c) _ u5 FU (nI cn) (fo D) (nI bt) (nI 20) s held) = _
    rw [q_full hs49 (by omega), qbd, u2, dnI_s, u4]
    have e1 : sm (fun p => sm (tn g So p) 21) (c + 1) = sm (fun p => sm (tn g So p) 21) c + sm (tn g So c) (20 + 1) := rfl
    have e2 : fuo (fun p => fuo (tf g So p) 21) (c + 1) = (fuo (fun p => fuo (tf g So p) 21) c).or (fuo (tf g So c) (20 + 1)) := rfl
    have e3 : lo (fun p => lo (tb g So p) 21) (c + 1) = lo (fun p => lo (tb g So p) 21) c ||| lo (tb g So c) (20 + 1) := rfl
    rw [e1, e2, e3, or_asc, Nat.or_assoc, Nat.or_comm (lo (tb g So c) (20 + 1)), show cn + sm (tn g So c) (20 + 1) + sm (fun p => sm (tn g So p) 21) c = cn + (sm (fun p => sm (tn g So p) 21) c + sm (tn g So c) (20 + 1)) by omega]
theorem sim_theft {n : Nat} {Y K T : Nat → Nat} {le sh : Nat} {hp hl hs : Int32} {hy hk ht hb td : Nat → Int32} (h : RH n Y K T le sh hp hl hs hy hk ht hb td) {g : Nat → Nat} {a b : Nat} {sp : Nat → Int32} {spr lo' : Int32} {s : Nat → Int32} (hR : RS n g a b sp spr lo' s 0) {ts : Int32} {tsp tpa tv : Nat → Int32} {mm : Int32} {mn mv : Nat → Int32} (h3 : RLv n ts tsp tpa tv mm mn mv) (held : Nat → Int32) (v1 : Int32) : ∃ o1 o2, f_X7_theft hp sp ts tpa tsp hk tv v1 = some o1 ∧ f_X8_theft mm td s held mn mv v1 = some o2 ∧ o1 = o2.1 ∧ RS n g a b sp spr lo' o2.2.1 0 := by
  obtain ⟨o, ho, hbo⟩ := h.srt
  obtain ⟨hn, hle, -, rfl, e0, -, -, -, -, hj, -⟩ := h
  obtain ⟨w1, w2, w3, w4, w5, w6, w7a, w7b⟩ := hR.get0
  obtain ⟨c, hc, rfl, rfl, A, B, V, hh⟩ := h3
  have hY : ∀ j, j < n → Y j ≤ 99 ∧ td (5 + j) = nI (Y j) := fun j hj2 => ⟨(hj j hj2).1, (hj j hj2).2.2.2.2.1⟩
  have hK : ∀ j, j < n → K j ≤ 9 ∧ td (19 + j) = nI (K j) := fun j hj2 => ⟨(hj j hj2).2.1, (hj j hj2).2.2.2.2.2.2.1⟩
  have hK2 : ∀ j, j < n → K j ≤ 9 ∧ hk j = nI (K j) := fun j hj2 => ⟨(hj j hj2).2.1, (hj j hj2).2.2.2.2.2.1⟩
  unfold f_X7_theft f_X8_theft
  simp only [L0, L1, L2, L3, L4, L5, L6, L7, L8, L9, L10, L11, L12, L13, L19, L20, L26, L31, L32, L33, L48, L49, L50, L51, L57, L59, L60, L61, L98, L99, L100, L108, L112, L115, L127, L128, L200, L201, L255, L256, L257, L400, L401, L420, L459, L999, L1000, L5940]
  rcases in_cases v1 (a := 0) (b := 2) (by omega) (by omega) with ⟨e1, e2⟩ | ⟨w, -, hw, rfl, e1, e2⟩
  · rw [e1, e2]
    simp (disch := omega) only [L0, L1, L2, L3, L4, L5, L6, L7, L8, L9, L10, L11, L12, L13, L19, L20, L26, L31, L32, L33, L48, L49, L50, L51, L57, L59, L60, L61, L98, L99, L100, L108, L112, L115, L127, L128, L200, L201, L255, L256, L257, L400, L401, L420, L459, L999, L1000, L5940, nI_add, pk_mul, qle, qlt, qeq, qcl, qck, qbd, qsub, if_pos, if_neg]
    exact ⟨_, _, rfl, rfl, rfl, hR⟩
  have hd : td (nI 0).toNatClampNeg - nI 1 = dnI n := by
    rw [qcl (by omega), e0]
    cases n with
    | zero => decide
    | succ n => rw [qsub (by omega)]; rfl
  have hA := q_theft (v1 := nI w) (So := fun p k => soN (fun i => decide ((tot g (B i) - (if B i = p then k else 0)) - A i * K (B i) = V i)) c) (hk := hk) (tsp := tsp) (tpa := tpa) (tv := tv) (ts := nI c) hn w7a w1 (fun p k hp2 hk2 => q_levelsSo hn hc hp2 hk2 w7a w1 hK2 (fun i hi => by
    obtain ⟨a1, a2, a3, a4, a5, a6, -, -⟩ := hh i hi
    exact ⟨a1, a2, a3, a4, a5, a6⟩))
  obtain ⟨s', held', u1, u2⟩ := q_mtheft (v1 := nI w) (So := fun p k => soN (fun i => decide ((tot g (B i) - (if B i = p then k else 0)) - A i * K (B i) = V i)) c) (mm := nI c) (mn := mn) (mv := mv) hn ho hY w1 w7b w6 (fun p k s2 hp2 hk2 hs2 => by
    rw [q_isSo (K := K) (A := A) (B := B) (V := V) hn hc hs2 (vg_gone w1 Y k p) hK (fun i hi => by
      obtain ⟨a1, a2, a3, -, -, -, a7, a8⟩ := hh i hi
      exact ⟨a1, a2, a3, a7, a8⟩)]
    congr 2
    exact soN_cong (fun i hi => by
      unfold so1
      rw [tot_gone hn ho hp2 w1 (show B i < 7 by have := (hh i hi).2.1; omega)])) n FU 0 none 0 s held (Nat.le_refl _) (fu (by omega)) (fun x _ => rfl)
  rw [Nat.zero_add, or_none', Nat.zero_or] at u2
  rw [e1, e2, hA, qck (by omega) (by omega), hd]
  simp only [qbd, if_neg (show ¬ nI 1 = nI 0 by decide)]
  have u3 : f_X8_theft_L29 (nI c) td mn mv (nI w) FU (nI 0) (-nI 9) (nI 0) (dnI n) s held = _ := u2
  rw [u3]
  have hR2 : RS n g a b sp spr lo' s' 0 := hR.copy (fun x _ => rfl) (fun x hx => by rw [Nat.zero_add]; exact u1 x hx)
  unfold f_X7_theft_J114 f_X8_theft_J143
  simp only [L0, L1, L2, L3, L4, L5, L6, L7, L8, L9, L10, L11, L12, L13, L19, L20, L26, L31, L32, L33, L48, L49, L50, L51, L57, L59, L60, L61, L98, L99, L100, L108, L112, L115, L127, L128, L200, L201, L255, L256, L257, L400, L401, L420, L459, L999, L1000, L5940]
  by_cases c0 : nI w = nI 0
  · rw [if_pos c0, if_pos c0]; exact ⟨_, _, rfl, rfl, rfl, hR2⟩
  · rw [if_neg c0, if_neg c0]
    by_cases c1 : nI w = nI 1
    · rw [if_pos c1, if_pos c1]; exact ⟨_, _, rfl, rfl, rfl, hR2⟩
    · rw [if_neg c1, if_neg c1]; exact ⟨_, _, rfl, rfl, rfl, hR2⟩
