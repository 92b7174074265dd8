theorem q_inAll {n : Nat} {g : Nat → Nat} {sp : Nat → Int32} (hn : n ≤ 7) (hs : ∀ x, x < 49 → sp x = nI (g x)) (hv : vg n g) : f_X4_inAll (nI n) sp = some (nI (sm (tot g) n)) := by
  unfold f_X4_inAll
  simp only [L0, L1, L2, L3, L4, L5, L6, L7, L8, L9, L10, L11, L12, L13, L19, L20, L26, L31, L32, L33, L48, L49, L50, L51, L57, L59, L60, L61, L98, L99, L100, L108, L112, L115, L127, L128, L200, L201, L255, L256, L257, L400, L401, L420, L459, L999, L1000, L5940]
  refine lup (fun q f => f_X4_inAll_L4 (nI n) sp f (nI (sm (tot g) q)) (nI q)) n _ (fun q f hq => ?_) (fun f => ?_) 0 FU (by omega) (fu (by omega))
  · show f_X4_inAll_B4 _ _ _ _ _ = _
    unfold f_X4_inAll_B4
    simp only [L0, L1, L2, L3, L4, L5, L6, L7, L8, L9, L10, L11, L12, L13, L19, L20, L26, L31, L32, L33, L48, L49, L50, L51, L57, L59, L60, L61, L98, L99, L100, L108, L112, L115, L127, L128, L200, L201, L255, L256, L257, L400, L401, L420, L459, L999, L1000, L5940]
    rw [if_neg (nI_ge hq (by omega)), q_inPan hs hn (by omega) (vg_z hv (by omega)), qbd, nI_add, nI_add, sm_s]
  · show f_X4_inAll_B4 _ _ _ _ _ = _
    unfold f_X4_inAll_B4
    rw [if_pos (nI_le (Nat.le_refl _) (by omega))]
theorem q_all {n : Nat} {g : Nat → Nat} {s td : Nat → Int32} (hn : n ≤ 7) (h0 : td 0 = nI n) (hs : ∀ x, x < 49 → s x = nI (g x)) : f_X8_all td s = some (nI (sm (tot g) n)) := by
  unfold f_X8_all
  simp only [L0, L1, L2, L3, L4, L5, L6, L7, L8, L9, L10, L11, L12, L13, L19, L20, L26, L31, L32, L33, L48, L49, L50, L51, L57, L59, L60, L61, L98, L99, L100, L108, L112, L115, L127, L128, L200, L201, L255, L256, L257, L400, L401, L420, L459, L999, L1000, L5940]
  refine lup (fun q f => f_X8_all_L4 td s f (nI (sm (tot g) q)) (nI q)) n _ (fun q f hq => ?_) (fun f => ?_) 0 FU (by omega) (fu (by omega))
  · show f_X8_all_B4 _ _ _ _ _ = _
    unfold f_X8_all_B4
    simp only [L0, L1, L2, L3, L4, L5, L6, L7, L8, L9, L10, L11, L12, L13, L19, L20, L26, L31, L32, L33, L48, L49, L50, L51, L57, L59, L60, L61, L98, L99, L100, L108, L112, L115, L127, L128, L200, L201, L255, L256, L257, L400, L401, L420, L459, L999, L1000, L5940]
    rw [qck (by omega) (by omega), qcl (by omega), h0, if_neg (nI_ge hq (by omega)), q_full hs (by omega), qbd, nI_add, nI_add, sm_s]
  · show f_X8_all_B4 _ _ _ _ _ = _
    unfold f_X8_all_B4
    simp only [L0, L1, L2, L3, L4, L5, L6, L7, L8, L9, L10, L11, L12, L13, L19, L20, L26, L31, L32, L33, L48, L49, L50, L51, L57, L59, L60, L61, L98, L99, L100, L108, L112, L115, L127, L128, L200, L201, L255, L256, L257, L400, L401, L420, L459, L999, L1000, L5940]
    rw [qck (by omega) (by omega), qcl (by omega), h0, if_pos (nI_le (Nat.le_refl _) (by omega))]
/-! a pan's taste, and where its rain is -/
theorem q_taste {n p : Nat} {Y g : Nat → Nat} {hy sp : Nat → Int32} (hn : n ≤ 7) (hp : p < 7) (hs : ∀ x, x < 49 → sp x = nI (g x)) (hY : ∀ j, j < n → hy j = nI (Y j)) : f_X4_tasteOf (nI n) sp hy (nI p) = some (nI (sm (fun q => g (7 * p + q) * Y q) n)) := by
  unfold f_X4_tasteOf
  simp only [L0, L1, L2, L3, L4, L5, L6, L7, L8, L9, L10, L11, L12, L13, L19, L20, L26, L31, L32, L33, L48, L49, L50, L51, L57, L59, L60, L61, L98, L99, L100, L108, L112, L115, L127, L128, L200, L201, L255, L256, L257, L400, L401, L420, L459, L999, L1000, L5940]
  refine lup (fun q f => f_X4_tasteOf_L4 (nI n) sp hy (nI p) f (nI (sm (fun q => g (7 * p + q) * Y q) q)) (nI q)) n _ (fun q f hq => ?_) (fun f => ?_) 0 FU (by omega) (fu (by omega))
  · show f_X4_tasteOf_B4 _ _ _ _ _ _ _ = _
    unfold f_X4_tasteOf_B4
    simp only [L0, L1, L2, L3, L4, L5, L6, L7, L8, L9, L10, L11, L12, L13, L19, L20, L26, L31, L32, L33, L48, L49, L50, L51, L57, L59, L60, L61, L98, L99, L100, L108, L112, L115, L127, L128, L200, L201, L255, L256, L257, L400, L401, L420, L459, L999, L1000, L5940]
    rw [if_neg (nI_ge hq (by omega)), q_amount hs hp (by omega), qbd, qck (show q < 7 by omega) (by omega), qcl (by omega), hY q hq, pk_mul, nI_add, nI_add, sm_s]
  · show f_X4_tasteOf_B4 _ _ _ _ _ _ _ = _
    unfold f_X4_tasteOf_B4
    rw [if_pos (nI_le (Nat.le_refl _) (by omega))]
def hasb (g : Nat → Nat) (p q : Nat) : Bool := decide (0 < g (7 * q + p))
theorem q_where {n p : Nat} {g : Nat → Nat} {sp : Nat → Int32} (hn : n ≤ 7) (hp : p < 7) (hs : ∀ x, x < 49 → sp x = nI (g x)) (hg : ∀ x, x < 49 → g x ≤ 420) : f_X4_whereIs (nI n) sp (nI p) = some (nI (orb (hasb g p) n)) := by
  unfold f_X4_whereIs
  simp only [L0, L1, L2, L3, L4, L5, L6, L7, L8, L9, L10, L11, L12, L13, L19, L20, L26, L31, L32, L33, L48, L49, L50, L51, L57, L59, L60, L61, L98, L99, L100, L108, L112, L115, L127, L128, L200, L201, L255, L256, L257, L400, L401, L420, L459, L999, L1000, L5940]
  refine lup (fun q f => f_X4_whereIs_L4 (nI n) sp (nI p) f (nI (orb (hasb g p) q)) (nI q)) n _ (fun q f hq => ?_) (fun f => ?_) 0 FU (by omega) (fu (by omega))
  · have hb := hg (7 * q + p) (by omega)
    show f_X4_whereIs_B4 _ _ _ _ _ _ = _
    unfold f_X4_whereIs_B4
    simp only [L0, L1, L2, L3, L4, L5, L6, L7, L8, L9, L10, L11, L12, L13, L19, L20, L26, L31, L32, L33, L48, L49, L50, L51, L57, L59, L60, L61, L98, L99, L100, L108, L112, L115, L127, L128, L200, L201, L255, L256, L257, L400, L401, L420, L459, L999, L1000, L5940]
    rw [if_neg (nI_ge hq (by omega)), q_amount hs (by omega) hp, qbd, nI_add, shl1 q (by omega), fa_or]
    show _ = f_X4_whereIs_L4 _ _ _ _ (nI (match hasb g p q with
      | true => orb (hasb g p) q ||| 2 ^ q
      | false => orb (hasb g p) q)) _
    unfold hasb
    by_cases c : 0 < g (7 * q + p)
    · rw [if_neg (by rw [nI_leI (by omega) (by omega)]; omega), decide_eq_true c]
    · rw [if_pos (by rw [nI_leI (by omega) (by omega)]; omega), decide_eq_false c]
  · show f_X4_whereIs_B4 _ _ _ _ _ _ = _
    unfold f_X4_whereIs_B4
    rw [if_pos (nI_le (Nat.le_refl _) (by omega))]
theorem q_panL {n p : Nat} {Y g : Nat → Nat} {s td : Nat → Int32} {v : Int32} (hn : n ≤ 7) (hp : p < 7) (h0 : td 0 = nI n) (hs : ∀ x, x < 49 → s x = nI (g x)) (hg : ∀ x, x < 49 → g x ≤ 420) (hY : ∀ j, j < n → td (5 + j) = nI (Y j)) : f_X8_pan_L28 td s (nI p) v FU (nI 0) (nI 0) (nI 0) = f_X8_pan_J98 td s (nI p) v (nI (sm (fun q => g (7 * p + q) * Y q) n)) (nI (orb (hasb g p) n)) := by
  refine lup (fun q f => f_X8_pan_L28 td s (nI p) v f (nI (sm (fun q => g (7 * p + q) * Y q) q)) (nI (orb (hasb g p) q)) (nI q)) n _ (fun q f hq => ?_) (fun f => ?_) 0 FU (by omega) (fu (by omega))
  · have hb := hg (7 * q + p) (by omega)
    show f_X8_pan_B28 _ _ _ _ _ _ _ _ = _
    unfold f_X8_pan_B28
    simp only [L0, L1, L2, L3, L4, L5, L6, L7, L8, L9, L10, L11, L12, L13, L19, L20, L26, L31, L32, L33, L48, L49, L50, L51, L57, L59, L60, L61, L98, L99, L100, L108, L112, L115, L127, L128, L200, L201, L255, L256, L257, L400, L401, L420, L459, L999, L1000, L5940]
    rw [qck (by omega) (by omega), qcl (by omega), h0, if_neg (nI_ge hq (by omega)), pk_mul, pk_mul, nI_add, nI_add, nI_add, qck (show 7 * p + q < 51 by omega) (by omega), qck (show 5 + q < 33 by omega) (by omega), qck (show 7 * q + p < 51 by omega) (by omega), qcl (by omega), qcl (by omega), qcl (by omega), hs _ (by omega), hs _ (by omega), hY q hq, pk_mul, nI_add, nI_add, shl1 q (by omega), fa_or, fa_or, Nat.or_zero]
    show _ = f_X8_pan_L28 _ _ _ _ _ _ (nI (match hasb g p q with
      | true => orb (hasb g p) q ||| 2 ^ q
      | false => orb (hasb g p) q)) _
    unfold hasb
    by_cases c : 0 < g (7 * q + p)
    · rw [if_neg (by rw [nI_leI (by omega) (by omega)]; omega), decide_eq_true c, sm_s]
    · rw [if_pos (by rw [nI_leI (by omega) (by omega)]; omega), decide_eq_false c, sm_s]
  · show f_X8_pan_B28 _ _ _ _ _ _ _ _ = _
    unfold f_X8_pan_B28
    simp only [L0, L1, L2, L3, L4, L5, L6, L7, L8, L9, L10, L11, L12, L13, L19, L20, L26, L31, L32, L33, L48, L49, L50, L51, L57, L59, L60, L61, L98, L99, L100, L108, L112, L115, L127, L128, L200, L201, L255, L256, L257, L400, L401, L420, L459, L999, L1000, L5940]
    rw [qck (by omega) (by omega), qcl (by omega), h0, if_pos (nI_le (Nat.le_refl _) (by omega))]
theorem sim_pan {n : Nat} {Y K T : Nat → Nat} {le sh : Nat} {hp hl hs : Int32} {hy hk ht hb td : Nat → Int32} (h : RH n Y K T le sh hp hl hs hy hk ht hb td) {g : Nat → Nat} {a b : Nat} {sp : Nat → Int32} {spr lo : Int32} {s : Nat → Int32} (hR : RS n g a b sp spr lo s 0) (v1 v2 : Int32) : ∃ o, f_X7_pan hp hl sp hy hk hb ht v1 v2 = some o ∧ f_X8_pan td s v1 v2 = some o := by
  obtain ⟨o, ho, hbo⟩ := h.srt
  obtain ⟨hn, hle, -, rfl, e0, rfl, e1l, rfl, -, hj, -⟩ := h
  obtain ⟨w1, w2, w3, w4, w5, w6, w7a, w7b⟩ := hR.get0
  unfold f_X7_pan f_X8_pan
  simp only [L0, L1, L2, L3, L4, L5, L6, L7, L8, L9, L10, L11, L12, L13, L19, L20, L26, L31, L32, L33, L48, L49, L50, L51, L57, L59, L60, L61, L98, L99, L100, L108, L112, L115, L127, L128, L200, L201, L255, L256, L257, L400, L401, L420, L459, L999, L1000, L5940]
  rcases pan_cases v1 hn e0 with ⟨e1, e2⟩ | ⟨p, hpn, rfl, e1, e2⟩
  · rw [e1, e2]
    simp (disch := omega) only [L0, L1, L2, L3, L4, L5, L6, L7, L8, L9, L10, L11, L12, L13, L19, L20, L26, L31, L32, L33, L48, L49, L50, L51, L57, L59, L60, L61, L98, L99, L100, L108, L112, L115, L127, L128, L200, L201, L255, L256, L257, L400, L401, L420, L459, L999, L1000, L5940, nI_add, pk_mul, qle, qlt, qeq, qcl, qck, qbd, qsub, if_pos, if_neg]
    exact ⟨_, rfl, rfl⟩
  rw [e1, e2]
  obtain ⟨y1, y2, y3, y4, y5, y6, y7, y8, y9⟩ := hj p hpn
  rcases in_cases v2 (a := 0) (b := 6) (by omega) (by omega) with ⟨e3, e4⟩ | ⟨k, hk1, hk2, rfl, e3, e4⟩
  · rw [e4]
    have hv : ∀ k, k ≤ 6 → v2 ≠ nI k := by
      intro k hk e
      rw [e] at e4
      unfold f_X8_in at e4
      rw [if_neg (nI_nlt (Nat.zero_le _) (by omega)), if_neg (nI_nlt hk (by omega))] at e4
      exact absurd (Option.some.inj e4) (by decide)
    rw [qbd, qbd, qbd, if_neg (show ¬ nI 1 = nI 0 by decide), if_neg (hv 0 (by omega)), if_neg (hv 1 (by omega)), if_neg (hv 2 (by omega)), if_neg (hv 3 (by omega)), if_neg (hv 4 (by omega)), if_neg (hv 5 (by omega)), if_neg (hv 6 (by omega)), if_neg (show ¬ nI 1 = nI 0 by decide), if_pos (rfl : nI 0 = nI 0)]
    exact ⟨_, rfl, rfl⟩
  · rw [e4, q_panL (Y := Y) hn (by omega) e0 w7b (fun x hx => vg_le w1 hx) (fun j hj2 => (hj j hj2).2.2.2.2.1), q_inPan w7a hn (by omega) (vg_z w1 (by omega)), q_can (K := K) hn hpn hle.2 ho hbo y6 w7a w1, q_taste (Y := Y) hn (by omega) w7a (fun j hj2 => (hj j hj2).2.2.2.1), q_where hn (by omega) w7a (fun x hx => vg_le w1 hx)]
    unfold f_X8_pan_J98
    simp only [L0, L1, L2, L3, L4, L5, L6, L7, L8, L9, L10, L11, L12, L13, L19, L20, L26, L31, L32, L33, L48, L49, L50, L51, L57, L59, L60, L61, L98, L99, L100, L108, L112, L115, L127, L128, L200, L201, L255, L256, L257, L400, L401, L420, L459, L999, L1000, L5940]
    rw [q_full w7b (by omega), q_isRead (le := le) (show p < 7 by omega) hle.2 e1l w7b (vg_le w1 (by omega)) (Nat.le_trans (tot_le (by omega)) w1.1)]
    have hcases : k = 0 ∨ k = 1 ∨ k = 2 ∨ k = 3 ∨ k = 4 ∨ k = 5 ∨ k = 6 := by omega
    rcases hcases with rfl | rfl | rfl | rfl | rfl | rfl | rfl
    · simp (disch := omega) only [L0, L1, L2, L3, L4, L5, L6, L7, L8, L9, L10, L11, L12, L13, L19, L20, L26, L31, L32, L33, L48, L49, L50, L51, L57, L59, L60, L61, L98, L99, L100, L108, L112, L115, L127, L128, L200, L201, L255, L256, L257, L400, L401, L420, L459, L999, L1000, L5940, nI_add, pk_mul, qle, qlt, qeq, qcl, qck, qbd, qsub, if_pos, if_neg]
      rw [y4, y5]
      exact ⟨_, rfl, rfl⟩
    · simp (disch := omega) only [L0, L1, L2, L3, L4, L5, L6, L7, L8, L9, L10, L11, L12, L13, L19, L20, L26, L31, L32, L33, L48, L49, L50, L51, L57, L59, L60, L61, L98, L99, L100, L108, L112, L115, L127, L128, L200, L201, L255, L256, L257, L400, L401, L420, L459, L999, L1000, L5940, nI_add, pk_mul, qle, qlt, qeq, qcl, qck, qbd, qsub, if_pos, if_neg]
      rw [y6, y7]
      exact ⟨_, rfl, rfl⟩
    · simp (disch := omega) only [L0, L1, L2, L3, L4, L5, L6, L7, L8, L9, L10, L11, L12, L13, L19, L20, L26, L31, L32, L33, L48, L49, L50, L51, L57, L59, L60, L61, L98, L99, L100, L108, L112, L115, L127, L128, L200, L201, L255, L256, L257, L400, L401, L420, L459, L999, L1000, L5940, nI_add, pk_mul, qle, qlt, qeq, qcl, qck, qbd, qsub, if_pos, if_neg]
      rw [y8, y9]
      exact ⟨_, rfl, rfl⟩
    · simp (disch := omega) only [L0, L1, L2, L3, L4, L5, L6, L7, L8, L9, L10, L11, L12, L13, L19, L20, L26, L31, L32, L33, L48, L49, L50, L51, L57, L59, L60, L61, L98, L99, L100, L108, L112, L115, L127, L128, L200, L201, L255, L256, L257, L400, L401, L420, L459, L999, L1000, L5940, nI_add, pk_mul, qle, qlt, qeq, qcl, qck, qbd, qsub, if_pos, if_neg]
      exact ⟨_, rfl, rfl⟩
    · simp (disch := omega) only [L0, L1, L2, L3, L4, L5, L6, L7, L8, L9, L10, L11, L12, L13, L19, L20, L26, L31, L32, L33, L48, L49, L50, L51, L57, L59, L60, L61, L98, L99, L100, L108, L112, L115, L127, L128, L200, L201, L255, L256, L257, L400, L401, L420, L459, L999, L1000, L5940, nI_add, pk_mul, qle, qlt, qeq, qcl, qck, qbd, qsub, if_pos, if_neg]
      cases rdb le g p <;> exact ⟨_, rfl, rfl⟩
    · simp (disch := omega) only [L0, L1, L2, L3, L4, L5, L6, L7, L8, L9, L10, L11, L12, L13, L19, L20, L26, L31, L32, L33, L48, L49, L50, L51, L57, L59, L60, L61, L98, L99, L100, L108, L112, L115, L127, L128, L200, L201, L255, L256, L257, L400, L401, L420, L459, L999, L1000, L5940, nI_add, pk_mul, qle, qlt, qeq, qcl, qck, qbd, qsub, if_pos, if_neg]
      exact ⟨_, rfl, rfl⟩
    · simp (disch := omega) only [L0, L1, L2, L3, L4, L5, L6, L7, L8, L9, L10, L11, L12, L13, L19, L20, L26, L31, L32, L33, L48, L49, L50, L51, L57, L59, L60, L61, L98, L99, L100, L108, L112, L115, L127, L128, L200, L201, L255, L256, L257, L400, L401, L420, L459, L999, L1000, L5940, nI_add, pk_mul, qle, qlt, qeq, qcl, qck, qbd, qsub, if_pos, if_neg]
      exact ⟨_, rfl, rfl⟩
theorem rdb_own {le : Nat} {g : Nat → Nat} {p : Nat} (h : rdb le g p = true) : tot g p = g (7 * p + p) ∧ le ≤ tot g p := by
  have := of_decide_eq_true h
  omega
theorem sim_spoil {n : Nat} {Y K T : Nat → Nat} {le sh : Nat} {hp hl hs : Int32} {hy hk ht hb td : Nat → Int32} (h : RH n Y K T le sh hp hl hs hy hk ht hb td) {g : Nat → Nat} {a b : Nat} {sp : Nat → Int32} {spr lo : Int32} {s : Nat → Int32} (hR : RS n g a b sp spr lo s 0) (v1 : Int32) : ∃ o, f_X7_spoil hp hl hk hb sp v1 = some o ∧ f_X8_spoil td s v1 = some o := by
  obtain ⟨o, ho, hbo⟩ := h.srt
  obtain ⟨hn, hle, -, rfl, e0, rfl, e1l, rfl, -, hj, -⟩ := h
  obtain ⟨w1, w2, w3, w4, w5, w6, w7a, w7b⟩ := hR.get0
  unfold f_X7_spoil f_X8_spoil
  simp only [L0, L1, L2, L3, L4, L5, L6, L7, L8, L9, L10, L11, L12, L13, L19, L20, L26, L31, L32, L33, L48, L49, L50, L51, L57, L59, L60, L61, L98, L99, L100, L108, L112, L115, L127, L128, L200, L201, L255, L256, L257, L400, L401, L420, L459, L999, L1000, L5940]
  rcases pan_cases v1 hn e0 with ⟨e1, e2⟩ | ⟨p, hpn, rfl, e1, e2⟩
  · rw [e1, e2]
    simp (disch := omega) only [L0, L1, L2, L3, L4, L5, L6, L7, L8, L9, L10, L11, L12, L13, L19, L20, L26, L31, L32, L33, L48, L49, L50, L51, L57, L59, L60, L61, L98, L99, L100, L108, L112, L115, L127, L128, L200, L201, L255, L256, L257, L400, L401, L420, L459, L999, L1000, L5940, nI_add, pk_mul, qle, qlt, qeq, qcl, qck, qbd, qsub, if_pos, if_neg]
    exact ⟨_, rfl, rfl⟩
  obtain ⟨y1, y2, y3, y4, y5, y6, y7, y8, y9⟩ := hj p hpn
  rw [e1, e2, q_can (K := K) hn hpn hle.2 ho hbo y6 w7a w1, q_isRead (le := le) (show p < 7 by omega) hle.2 e1l w7b (vg_le w1 (by omega)) (Nat.le_trans (tot_le (by omega)) w1.1), q_inPan w7a hn (by omega) (vg_z w1 (by omega))]
  rw [qbd, qbd, qbd, qbd, qbd, if_neg (show ¬ nI 1 = nI 0 by decide), if_neg (show ¬ nI 1 = nI 0 by decide)]
  cases hr : rdb le g p with
  | false =>
    rw [if_pos (show bI false = nI 0 from rfl), if_pos (show bI false = nI 0 from rfl)]
    exact ⟨_, rfl, rfl⟩
  | true =>
    have h2 := rdb_own hr
    rw [if_neg (show ¬ bI true = nI 0 by decide), if_neg (show ¬ bI true = nI 0 by decide)]
    simp (disch := omega) only [L0, L1, L2, L3, L4, L5, L6, L7, L8, L9, L10, L11, L12, L13, L19, L20, L26, L31, L32, L33, L48, L49, L50, L51, L57, L59, L60, L61, L98, L99, L100, L108, L112, L115, L127, L128, L200, L201, L255, L256, L257, L400, L401, L420, L459, L999, L1000, L5940, nI_add, pk_mul, qle, qlt, qeq, qcl, qck, qbd, qsub, if_pos, if_neg]
    rw [show 8 * p = 7 * p + p by omega, w7b _ (by omega), e1l, ← h2.1]
    exact ⟨_, rfl, by rw [qsub h2.2, nI_add]⟩
theorem sim_rate {n : Nat} {Y K T : Nat → Nat} {le sh : Nat} {hp hl hs : Int32} {hy hk ht hb td : Nat → Int32} (h : RH n Y K T le sh hp hl hs hy hk ht hb td) {g : Nat → Nat} {a b : Nat} {sp : Nat → Int32} {spr lo : Int32} {s : Nat → Int32} (hR : RS n g a b sp spr lo s 0) (tr : Int64) (v1 v2 : Int32) : ∃ o, f_X7_rate tr hp spr sp hy hk v1 v2 = some o ∧ f_X8_rate tr td s v1 v2 = some o := by
  obtain ⟨hn, hle, -, rfl, e0, -, -, -, -, hj, -⟩ := h
  obtain ⟨w1, w2, w3, w4, w5, w6, w7a, w7b⟩ := hR.get0
  unfold f_X7_rate f_X8_rate
  simp only [L0, L1, L2, L3, L4, L5, L6, L7, L8, L9, L10, L11, L12, L13, L19, L20, L26, L31, L32, L33, L48, L49, L50, L51, L57, L59, L60, L61, L98, L99, L100, L108, L112, L115, L127, L128, L200, L201, L255, L256, L257, L400, L401, L420, L459, L999, L1000, L5940]
  rcases pan_cases v2 hn e0 with ⟨e1, e2⟩ | ⟨p, hpn, rfl, e1, e2⟩
  · rw [e1, e2]
    rcases in_cases v1 (a := 0) (b := 5) (by omega) (by omega) with ⟨e3, e4⟩ | ⟨k, hk1, hk2, rfl, e3, e4⟩
    · rw [e4]
      simp (disch := omega) only [L0, L1, L2, L3, L4, L5, L6, L7, L8, L9, L10, L11, L12, L13, L19, L20, L26, L31, L32, L33, L48, L49, L50, L51, L57, L59, L60, L61, L98, L99, L100, L108, L112, L115, L127, L128, L200, L201, L255, L256, L257, L400, L401, L420, L459, L999, L1000, L5940, nI_add, pk_mul, qle, qlt, qeq, qcl, qck, qbd, qsub, if_pos, if_neg]
      exact ⟨_, rfl, rfl⟩
    · rw [e4]
      simp (disch := omega) only [L0, L1, L2, L3, L4, L5, L6, L7, L8, L9, L10, L11, L12, L13, L19, L20, L26, L31, L32, L33, L48, L49, L50, L51, L57, L59, L60, L61, L98, L99, L100, L108, L112, L115, L127, L128, L200, L201, L255, L256, L257, L400, L401, L420, L459, L999, L1000, L5940, nI_add, pk_mul, qle, qlt, qeq, qcl, qck, qbd, qsub, if_pos, if_neg]
      exact ⟨_, rfl, rfl⟩
  rw [e1, e2]
  obtain ⟨y1, y2, y3, y4, y5, y6, y7, y8, y9⟩ := hj p hpn
  have hin := q_inPan w7a hn (show p < 7 by omega) (vg_z w1 (by omega))
  rcases in_cases v1 (a := 0) (b := 5) (by omega) (by omega) with ⟨e3, e4⟩ | ⟨k, hk1, hk2, rfl, e3, e4⟩
  · rw [e4]
    have hv : ∀ k, k ≤ 5 → v1 ≠ nI k := by
      intro k hk e
      rw [e] at e4
      unfold f_X8_in at e4
      rw [if_neg (nI_nlt (Nat.zero_le _) (by omega)), if_neg (nI_nlt hk (by omega))] at e4
      exact absurd (Option.some.inj e4) (by decide)
    rw [qbd, qbd, if_neg (show ¬ nI 1 = nI 0 by decide), if_neg (hv 0 (by omega)), if_neg (hv 1 (by omega)), if_neg (hv 2 (by omega)), if_neg (hv 3 (by omega)), if_neg (hv 4 (by omega)), if_neg (hv 5 (by omega)), if_pos (rfl : nI 0 = nI 0)]
    exact ⟨_, rfl, rfl⟩
  · rw [e4]
    unfold f_X8_rate_J80 f_X7_rateOfFont f_X7_rateOfPhial f_X7_rateOfSaucer f_X7_rateOfBottle f_X7_rateOfUrn f_X7_rateOfPan
    simp only [L0, L1, L2, L3, L4, L5, L6, L7, L8, L9, L10, L11, L12, L13, L19, L20, L26, L31, L32, L33, L48, L49, L50, L51, L57, L59, L60, L61, L98, L99, L100, L108, L112, L115, L127, L128, L200, L201, L255, L256, L257, L400, L401, L420, L459, L999, L1000, L5940]
    rw [q_full w7b (by omega), hin]
    have hcases : k = 0 ∨ k = 1 ∨ k = 2 ∨ k = 3 ∨ k = 4 ∨ k = 5 := by omega
    rcases hcases with rfl | rfl | rfl | rfl | rfl | rfl
    · simp (disch := omega) only [L0, L1, L2, L3, L4, L5, L6, L7, L8, L9, L10, L11, L12, L13, L19, L20, L26, L31, L32, L33, L48, L49, L50, L51, L57, L59, L60, L61, L98, L99, L100, L108, L112, L115, L127, L128, L200, L201, L255, L256, L257, L400, L401, L420, L459, L999, L1000, L5940, nI_add, pk_mul, qle, qlt, qeq, qcl, qck, qbd, qsub, if_pos, if_neg]
      exact ⟨_, rfl, rfl⟩
    · simp (disch := omega) only [L0, L1, L2, L3, L4, L5, L6, L7, L8, L9, L10, L11, L12, L13, L19, L20, L26, L31, L32, L33, L48, L49, L50, L51, L57, L59, L60, L61, L98, L99, L100, L108, L112, L115, L127, L128, L200, L201, L255, L256, L257, L400, L401, L420, L459, L999, L1000, L5940, nI_add, pk_mul, qle, qlt, qeq, qcl, qck, qbd, qsub, if_pos, if_neg]
      rw [y6, y7]
      exact ⟨_, rfl, by rw [Int64.add_assoc]; rfl⟩
    · simp (disch := omega) only [L0, L1, L2, L3, L4, L5, L6, L7, L8, L9, L10, L11, L12, L13, L19, L20, L26, L31, L32, L33, L48, L49, L50, L51, L57, L59, L60, L61, L98, L99, L100, L108, L112, L115, L127, L128, L200, L201, L255, L256, L257, L400, L401, L420, L459, L999, L1000, L5940, nI_add, pk_mul, qle, qlt, qeq, qcl, qck, qbd, qsub, if_pos, if_neg]
      rw [y4, y5]
      exact ⟨_, rfl, by rw [Int64.add_assoc]; rfl⟩
    · simp (disch := omega) only [L0, L1, L2, L3, L4, L5, L6, L7, L8, L9, L10, L11, L12, L13, L19, L20, L26, L31, L32, L33, L48, L49, L50, L51, L57, L59, L60, L61, L98, L99, L100, L108, L112, L115, L127, L128, L200, L201, L255, L256, L257, L400, L401, L420, L459, L999, L1000, L5940, nI_add, pk_mul, qle, qlt, qeq, qcl, qck, qbd, qsub, if_pos, if_neg]
      rw [y6, y7]
      exact ⟨_, rfl, by rw [Int64.add_assoc, Int64.add_assoc]; rfl⟩
    · simp (disch := omega) only [L0, L1, L2, L3, L4, L5, L6, L7, L8, L9, L10, L11, L12, L13, L19, L20, L26, L31, L32, L33, L48, L49, L50, L51, L57, L59, L60, L61, L98, L99, L100, L108, L112, L115, L127, L128, L200, L201, L255, L256, L257, L400, L401, L420, L459, L999, L1000, L5940, nI_add, pk_mul, qle, qlt, qeq, qcl, qck, qbd, qsub, if_pos, if_neg]
      rw [y4, y5]
      exact ⟨_, rfl, by rw [Int64.add_assoc, Int64.add_assoc]; rfl⟩
    · simp (disch := omega) only [L0, L1, L2, L3, L4, L5, L6, L7, L8, L9, L10, L11, L12, L13, L19, L20, L26, L31, L32, L33, L48, L49, L50, L51, L57, L59, L60, L61, L98, L99, L100, L108, L112, L115, L127, L128, L200, L201, L255, L256, L257, L400, L401, L420, L459, L999, L1000, L5940, nI_add, pk_mul, qle, qlt, qeq, qcl, qck, qbd, qsub, if_pos, if_neg]
      rw [w3, w4]
      exact ⟨_, rfl, by rw [Int64.add_assoc]; rfl⟩
