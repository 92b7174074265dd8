/-! what a pan holds -/
def tot (g : Nat → Nat) (p : Nat) : Nat := sm (fun q => g (7 * p + q)) 7
theorem q_at (p q : Nat) : f_X4_at (nI p) (nI q) = some (nI (7 * p + q)) := by
  unfold f_X4_at
  rw [L7, pk_mul, nI_add, Nat.mul_comm]
theorem q_amount {sp : Nat → Int32} {g : Nat → Nat} (hs : ∀ i, i < 49 → sp i = nI (g i)) {p q : Nat} (hp : p < 7) (hq : q < 7) : f_X4_amount sp (nI p) (nI q) = some (nI (g (7 * p + q))) := by
  unfold f_X4_amount
  rw [q_at, qbd, qck (by omega) (by omega), qcl (by omega), hs _ (by omega)]
theorem q_inPan {sp : Nat → Int32} {g : Nat → Nat} (hs : ∀ i, i < 49 → sp i = nI (g i)) {n p : Nat} (hn : n ≤ 7) (hp : p < 7) (hz : ∀ q, n ≤ q → q < 7 → g (7 * p + q) = 0) : f_X4_inPan (nI n) sp (nI p) = some (nI (tot g p)) := by
  unfold f_X4_inPan tot
  rw [sm_ext _ hn hz]
  refine lup (fun q f => f_X4_inPan_L4 (nI n) sp (nI p) f (nI (sm (fun q => g (7 * p + q)) q)) (nI q)) n _ (fun q f hq => ?_) (fun f => ?_) 0 FU (by omega) (fu (by omega))
  · show f_X4_inPan_B4 _ _ _ _ _ _ = _
    unfold f_X4_inPan_B4
    rw [if_neg (nI_ge hq (by omega)), q_amount hs hp (by omega), qbd, nI_add, nI_1, sm_s]
  · show f_X4_inPan_B4 _ _ _ _ _ _ = _
    unfold f_X4_inPan_B4
    rw [if_pos (nI_le (Nat.le_refl n) (by omega))]
theorem q_full {s : Nat → Int32} {g : Nat → Nat} (hs : ∀ i, i < 49 → s i = nI (g i)) {p : Nat} (hp : p < 7) : f_X8_full s (nI p) = some (nI (tot g p)) := by
  unfold f_X8_full tot
  refine lup (fun q f => f_X8_full_L4 s (nI p) f (nI (sm (fun q => g (7 * p + q)) q)) (nI q)) 7 _ (fun q f hq => ?_) (fun f => ?_) 0 FU (by omega) (fu (by omega))
  · show f_X8_full_B4 _ _ _ _ _ = _
    unfold f_X8_full_B4
    simp (disch := omega) only [L0, L1, L2, L3, L4, L5, L6, L7, L8, L9, L10, L11, L12, L13, L19, L20, L26, L31, L32, L33, L48, L49, L50, L51, L57, L59, L60, L61, L98, L99, L100, L108, L112, L115, L127, L128, L200, L201, L255, L256, L257, L400, L401, L420, L459, L999, L1000, L5940, nI_add, pk_mul, qle, qlt, qeq, qcl, qck, qbd, qsub, if_pos, if_neg]
    rw [hs _ (by omega), sm_s]
    simp (disch := omega) only [L0, L1, L2, L3, L4, L5, L6, L7, L8, L9, L10, L11, L12, L13, L19, L20, L26, L31, L32, L33, L48, L49, L50, L51, L57, L59, L60, L61, L98, L99, L100, L108, L112, L115, L127, L128, L200, L201, L255, L256, L257, L400, L401, L420, L459, L999, L1000, L5940, nI_add, pk_mul, qle, qlt, qeq, qcl, qck, qbd, qsub, if_pos, if_neg]
  · show f_X8_full_B4 _ _ _ _ _ = _
    unfold f_X8_full_B4
    simp (disch := omega) only [L0, L1, L2, L3, L4, L5, L6, L7, L8, L9, L10, L11, L12, L13, L19, L20, L26, L31, L32, L33, L48, L49, L50, L51, L57, L59, L60, L61, L98, L99, L100, L108, L112, L115, L127, L128, L200, L201, L255, L256, L257, L400, L401, L420, L459, L999, L1000, L5940, nI_add, pk_mul, qle, qlt, qeq, qcl, qck, qbd, qsub, if_pos, if_neg]
