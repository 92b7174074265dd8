/-! copies -/
def cpy (src dst : Nat → Int32) (b a j : Nat) : Nat → Int32 := fun x => if a ≤ x ∧ x < a + j then src (b + (x - a)) else dst x
theorem cpy_0 (src dst : Nat → Int32) (b a : Nat) : cpy src dst b a 0 = dst := funext (fun x => if_neg (by omega))
theorem cpy_s (src dst : Nat → Int32) (b a j : Nat) : upd (cpy src dst b a j) (a + j) (src (b + j)) = cpy src dst b a (j + 1) := by
  funext x
  by_cases e : x = a + j
  · rw [e, qu_s]
    unfold cpy
    rw [if_pos (by omega), show a + j - a = j by omega]
  · rw [qu_n e]
    unfold cpy
    by_cases c : a ≤ x ∧ x < a + j
    · rw [if_pos c, if_pos (by omega)]
    · rw [if_neg c, if_neg (by omega)]
theorem cpy_in (src dst : Nat → Int32) (b a j : Nat) {x : Nat} (h : x < j) : cpy src dst b a j (a + x) = src (b + x) := by
  unfold cpy
  rw [if_pos (by omega), show a + x - a = x by omega]
theorem cpy_out (src dst : Nat → Int32) (b a j : Nat) {x : Nat} (h : x < a ∨ a + j ≤ x) : cpy src dst b a j x = dst x := if_neg (by omega)
theorem q_become (spr lo : Int32) (osp tsp : Nat → Int32) : f_X4_become spr lo osp tsp = some (spr, lo, cpy osp tsp 0 0 49) := by
  have := lup (fun q f => f_X4_become_L18 osp spr lo f (nI q) (cpy osp tsp 0 0 q)) 49 (some (spr, lo, cpy osp tsp 0 0 49)) (fun q f hq => by
    show f_X4_become_B18 _ _ _ _ _ _ = _
    unfold f_X4_become_B18
    simp (disch := omega) only [L0, L1, L2, L3, L4, L5, L6, L7, L8, L9, L10, L11, L12, L13, L19, L20, L26, L31, L32, L33, L48, L49, L50, L51, L57, L59, L60, L61, L98, L99, L100, L108, L112, L115, L127, L128, L200, L201, L255, L256, L257, L400, L401, L420, L459, L999, L1000, L5940, nI_add, pk_mul, qle, qlt, qeq, qcl, qck, qbd, qsub, if_pos, if_neg]
    rw [← cpy_s, Nat.zero_add]) (fun f => by
    show f_X4_become_B18 _ _ _ _ _ _ = _
    unfold f_X4_become_B18
    simp (disch := omega) only [L0, L1, L2, L3, L4, L5, L6, L7, L8, L9, L10, L11, L12, L13, L19, L20, L26, L31, L32, L33, L48, L49, L50, L51, L57, L59, L60, L61, L98, L99, L100, L108, L112, L115, L127, L128, L200, L201, L255, L256, L257, L400, L401, L420, L459, L999, L1000, L5940, nI_add, pk_mul, qle, qlt, qeq, qcl, qck, qbd, qsub, if_pos, if_neg]) 0 FU (by omega) (fu (by omega))
  rw [cpy_0] at this
  exact this
theorem q_remembers (s held : Nat → Int32) : f_X8_remembers s held = some (cpy s held 0 0 51) := by
  have := lup (fun q f => f_X8_remembers_L2 s f (nI q) (cpy s held 0 0 q)) 51 (some (cpy s held 0 0 51)) (fun q f hq => by
    show f_X8_remembers_B2 _ _ _ _ = _
    unfold f_X8_remembers_B2
    simp (disch := omega) only [L0, L1, L2, L3, L4, L5, L6, L7, L8, L9, L10, L11, L12, L13, L19, L20, L26, L31, L32, L33, L48, L49, L50, L51, L57, L59, L60, L61, L98, L99, L100, L108, L112, L115, L127, L128, L200, L201, L255, L256, L257, L400, L401, L420, L459, L999, L1000, L5940, nI_add, pk_mul, qle, qlt, qeq, qcl, qck, qbd, qsub, if_pos, if_neg]
    rw [← cpy_s, Nat.zero_add]) (fun f => by
    show f_X8_remembers_B2 _ _ _ _ = _
    unfold f_X8_remembers_B2
    simp (disch := omega) only [L0, L1, L2, L3, L4, L5, L6, L7, L8, L9, L10, L11, L12, L13, L19, L20, L26, L31, L32, L33, L48, L49, L50, L51, L57, L59, L60, L61, L98, L99, L100, L108, L112, L115, L127, L128, L200, L201, L255, L256, L257, L400, L401, L420, L459, L999, L1000, L5940, nI_add, pk_mul, qle, qlt, qeq, qcl, qck, qbd, qsub, if_pos, if_neg]) 0 FU (by omega) (fu (by omega))
  rw [cpy_0] at this
  exact this
theorem q_lets (held s : Nat → Int32) : f_X8_lets held s = some (cpy held s 0 0 51) := by
  have := lup (fun q f => f_X8_lets_L2 held f (nI q) (cpy held s 0 0 q)) 51 (some (cpy held s 0 0 51)) (fun q f hq => by
    show f_X8_lets_B2 _ _ _ _ = _
    unfold f_X8_lets_B2
    simp (disch := omega) only [L0, L1, L2, L3, L4, L5, L6, L7, L8, L9, L10, L11, L12, L13, L19, L20, L26, L31, L32, L33, L48, L49, L50, L51, L57, L59, L60, L61, L98, L99, L100, L108, L112, L115, L127, L128, L200, L201, L255, L256, L257, L400, L401, L420, L459, L999, L1000, L5940, nI_add, pk_mul, qle, qlt, qeq, qcl, qck, qbd, qsub, if_pos, if_neg]
    rw [← cpy_s, Nat.zero_add]) (fun f => by
    show f_X8_lets_B2 _ _ _ _ = _
    unfold f_X8_lets_B2
    simp (disch := omega) only [L0, L1, L2, L3, L4, L5, L6, L7, L8, L9, L10, L11, L12, L13, L19, L20, L26, L31, L32, L33, L48, L49, L50, L51, L57, L59, L60, L61, L98, L99, L100, L108, L112, L115, L127, L128, L200, L201, L255, L256, L257, L400, L401, L420, L459, L999, L1000, L5940, nI_add, pk_mul, qle, qlt, qeq, qcl, qck, qbd, qsub, if_pos, if_neg]) 0 FU (by omega) (fu (by omega))
  rw [cpy_0] at this
  exact this
theorem q_keeps51 (s past : Nat → Int32) {kn : Nat} (h : kn < 10) : f_X8_keeps_L51 s (nI kn) FU (nI 0) past = some (nI (kn + 1), cpy s past 0 (51 * kn) 51) := by
  have := lup (fun q f => f_X8_keeps_L51 s (nI kn) f (nI q) (cpy s past 0 (51 * kn) q)) 51 (some (nI (kn + 1), cpy s past 0 (51 * kn) 51)) (fun q f hq => by
    show f_X8_keeps_B51 _ _ _ _ _ = _
    unfold f_X8_keeps_B51
    simp (disch := omega) only [L0, L1, L2, L3, L4, L5, L6, L7, L8, L9, L10, L11, L12, L13, L19, L20, L26, L31, L32, L33, L48, L49, L50, L51, L57, L59, L60, L61, L98, L99, L100, L108, L112, L115, L127, L128, L200, L201, L255, L256, L257, L400, L401, L420, L459, L999, L1000, L5940, nI_add, pk_mul, qle, qlt, qeq, qcl, qck, qbd, qsub, if_pos, if_neg]
    rw [← cpy_s, Nat.zero_add]) (fun f => by
    show f_X8_keeps_B51 _ _ _ _ _ = _
    unfold f_X8_keeps_B51 f_X8_keeps_J83
    simp (disch := omega) only [L0, L1, L2, L3, L4, L5, L6, L7, L8, L9, L10, L11, L12, L13, L19, L20, L26, L31, L32, L33, L48, L49, L50, L51, L57, L59, L60, L61, L98, L99, L100, L108, L112, L115, L127, L128, L200, L201, L255, L256, L257, L400, L401, L420, L459, L999, L1000, L5940, nI_add, pk_mul, qle, qlt, qeq, qcl, qck, qbd, qsub, if_pos, if_neg]) 0 FU (by omega) (fu (by omega))
  rw [cpy_0] at this
  exact this
theorem q_keeps11 (s past : Nat → Int32) : f_X8_keeps_L11 (nI 10) s FU (nI 0) past = some (nI 10, cpy s (cpy past past 51 0 459) 0 459 51) := by
  have := lup (fun q f => f_X8_keeps_L11 (nI 10) s f (nI q) (cpy past past 51 0 q)) 459 (some (nI 10, cpy s (cpy past past 51 0 459) 0 459 51)) (fun q f hq => by
    show f_X8_keeps_B11 _ _ _ _ _ = _
    unfold f_X8_keeps_B11
    simp (disch := omega) only [L0, L1, L2, L3, L4, L5, L6, L7, L8, L9, L10, L11, L12, L13, L19, L20, L26, L31, L32, L33, L48, L49, L50, L51, L57, L59, L60, L61, L98, L99, L100, L108, L112, L115, L127, L128, L200, L201, L255, L256, L257, L400, L401, L420, L459, L999, L1000, L5940, nI_add, pk_mul, qle, qlt, qeq, qcl, qck, qbd, qsub, if_pos, if_neg]
    rw [← cpy_s, Nat.zero_add, cpy_out past past 51 0 q (x := q + 51) (by omega), Nat.add_comm 51 q]) (fun f => by
    show f_X8_keeps_B11 _ _ _ _ _ = _
    unfold f_X8_keeps_B11 f_X8_keeps_J39
    simp (disch := omega) only [L0, L1, L2, L3, L4, L5, L6, L7, L8, L9, L10, L11, L12, L13, L19, L20, L26, L31, L32, L33, L48, L49, L50, L51, L57, L59, L60, L61, L98, L99, L100, L108, L112, L115, L127, L128, L200, L201, L255, L256, L257, L400, L401, L420, L459, L999, L1000, L5940, nI_add, pk_mul, qle, qlt, qeq, qcl, qck, qbd, qsub, if_pos, if_neg]
    exact q_keeps51 s _ (show 9 < 10 by omega)) 0 FU (by omega) (fu (by omega))
  rw [cpy_0] at this
  exact this
theorem q_keeps (s past : Nat → Int32) {kn : Nat} (h : kn ≤ 10) : f_X8_keeps (nI kn) past s = some (if kn = 10 then (nI 10, cpy s (cpy past past 51 0 459) 0 459 51) else (nI (kn + 1), cpy s past 0 (51 * kn) 51)) := by
  unfold f_X8_keeps
  simp only [L0, L1, L2, L3, L4, L5, L6, L7, L8, L9, L10, L11, L12, L13, L19, L20, L26, L31, L32, L33, L48, L49, L50, L51, L57, L59, L60, L61, L98, L99, L100, L108, L112, L115, L127, L128, L200, L201, L255, L256, L257, L400, L401, L420, L459, L999, L1000, L5940]
  by_cases e : kn = 10
  · subst e
    rw [if_pos rfl, if_pos rfl]
    exact q_keeps11 s past
  · rw [if_neg (by rw [nI_eq (by omega) (by omega)]; exact e), if_neg e]
    exact q_keeps51 s past (by omega)
theorem q_undo (s past : Nat → Int32) {kn : Nat} (h : kn ≤ 10) (h0 : kn ≠ 0) : f_X8_undo (nI kn) past s = some (nI (kn - 1), nI (kn - 1), cpy past s (51 * (kn - 1)) 0 51) := by
  unfold f_X8_undo
  simp (disch := omega) only [L0, L1, L2, L3, L4, L5, L6, L7, L8, L9, L10, L11, L12, L13, L19, L20, L26, L31, L32, L33, L48, L49, L50, L51, L57, L59, L60, L61, L98, L99, L100, L108, L112, L115, L127, L128, L200, L201, L255, L256, L257, L400, L401, L420, L459, L999, L1000, L5940, nI_add, pk_mul, qle, qlt, qeq, qcl, qck, qbd, qsub, if_pos, if_neg]
  have := lup (fun q f => f_X8_undo_L22 past (nI (kn - 1)) f (nI q) (cpy past s (51 * (kn - 1)) 0 q)) 51 (some (nI (kn - 1), nI (kn - 1), cpy past s (51 * (kn - 1)) 0 51)) (fun q f hq => by
    show f_X8_undo_B22 _ _ _ _ _ = _
    unfold f_X8_undo_B22
    simp (disch := omega) only [L0, L1, L2, L3, L4, L5, L6, L7, L8, L9, L10, L11, L12, L13, L19, L20, L26, L31, L32, L33, L48, L49, L50, L51, L57, L59, L60, L61, L98, L99, L100, L108, L112, L115, L127, L128, L200, L201, L255, L256, L257, L400, L401, L420, L459, L999, L1000, L5940, nI_add, pk_mul, qle, qlt, qeq, qcl, qck, qbd, qsub, if_pos, if_neg]
    rw [← cpy_s, Nat.zero_add]) (fun f => by
    show f_X8_undo_B22 _ _ _ _ _ = _
    unfold f_X8_undo_B22
    simp (disch := omega) only [L0, L1, L2, L3, L4, L5, L6, L7, L8, L9, L10, L11, L12, L13, L19, L20, L26, L31, L32, L33, L48, L49, L50, L51, L57, L59, L60, L61, L98, L99, L100, L108, L112, L115, L127, L128, L200, L201, L255, L256, L257, L400, L401, L420, L459, L999, L1000, L5940, nI_add, pk_mul, qle, qlt, qeq, qcl, qck, qbd, qsub, if_pos, if_neg]) 0 FU (by omega) (fu (by omega))
  rw [cpy_0] at this
  exact this
theorem q_keepL (s img kp : Nat → Int32) {i : Nat} (h : i < 2) : f_X8_keep_L13 s kp (nI i) FU (nI 0) img = some (s 49, cpy s img 0 (51 * i) 51, upd kp i (nI 1)) := by
  have := lup (fun q f => f_X8_keep_L13 s kp (nI i) f (nI q) (cpy s img 0 (51 * i) q)) 51 (some (s 49, cpy s img 0 (51 * i) 51, upd kp i (nI 1))) (fun q f hq => by
    show f_X8_keep_B13 _ _ _ _ _ _ = _
    unfold f_X8_keep_B13
    simp (disch := omega) only [L0, L1, L2, L3, L4, L5, L6, L7, L8, L9, L10, L11, L12, L13, L19, L20, L26, L31, L32, L33, L48, L49, L50, L51, L57, L59, L60, L61, L98, L99, L100, L108, L112, L115, L127, L128, L200, L201, L255, L256, L257, L400, L401, L420, L459, L999, L1000, L5940, nI_add, pk_mul, qle, qlt, qeq, qcl, qck, qbd, qsub, if_pos, if_neg]
    rw [← cpy_s, Nat.zero_add]) (fun f => by
    show f_X8_keep_B13 _ _ _ _ _ _ = _
    unfold f_X8_keep_B13 f_X8_keep_J42
    simp (disch := omega) only [L0, L1, L2, L3, L4, L5, L6, L7, L8, L9, L10, L11, L12, L13, L19, L20, L26, L31, L32, L33, L48, L49, L50, L51, L57, L59, L60, L61, L98, L99, L100, L108, L112, L115, L127, L128, L200, L201, L255, L256, L257, L400, L401, L420, L459, L999, L1000, L5940, nI_add, pk_mul, qle, qlt, qeq, qcl, qck, qbd, qsub, if_pos, if_neg]) 0 FU (by omega) (fu (by omega))
  rw [cpy_0] at this
  exact this
theorem q_backL (s img : Nat → Int32) {i : Nat} (h : i < 2) : f_X8_back_L25 img (nI i) FU (nI 0) s = some (img (51 * i + 49), nI 0, cpy img s (51 * i) 0 51) := by
  have := lup (fun q f => f_X8_back_L25 img (nI i) f (nI q) (cpy img s (51 * i) 0 q)) 51 (some (img (51 * i + 49), nI 0, cpy img s (51 * i) 0 51)) (fun q f hq => by
    show f_X8_back_B25 _ _ _ _ _ = _
    unfold f_X8_back_B25
    simp (disch := omega) only [L0, L1, L2, L3, L4, L5, L6, L7, L8, L9, L10, L11, L12, L13, L19, L20, L26, L31, L32, L33, L48, L49, L50, L51, L57, L59, L60, L61, L98, L99, L100, L108, L112, L115, L127, L128, L200, L201, L255, L256, L257, L400, L401, L420, L459, L999, L1000, L5940, nI_add, pk_mul, qle, qlt, qeq, qcl, qck, qbd, qsub, if_pos, if_neg]
    rw [← cpy_s, Nat.zero_add]) (fun f => by
    show f_X8_back_B25 _ _ _ _ _ = _
    unfold f_X8_back_B25 f_X8_back_J54
    simp (disch := omega) only [L0, L1, L2, L3, L4, L5, L6, L7, L8, L9, L10, L11, L12, L13, L19, L20, L26, L31, L32, L33, L48, L49, L50, L51, L57, L59, L60, L61, L98, L99, L100, L108, L112, L115, L127, L128, L200, L201, L255, L256, L257, L400, L401, L420, L459, L999, L1000, L5940, nI_add, pk_mul, qle, qlt, qeq, qcl, qck, qbd, qsub, if_pos, if_neg]
    have := cpy_in img s (51 * i) 0 51 (show 49 < 51 by omega)
    rw [Nat.zero_add] at this
    rw [this]) 0 FU (by omega) (fu (by omega))
  rw [cpy_0] at this
  exact this
theorem RS.copy {n : Nat} {g : Nat → Nat} {a b : Nat} {sp sp' : Nat → Int32} {spr lo : Int32} {s s' : Nat → Int32} {off off' : Nat} (h : RS n g a b sp spr lo s off) (h1 : ∀ x, x < 49 → sp' x = sp x) (h2 : ∀ x, x < 51 → s' (off' + x) = s (off + x)) : RS n g a b sp' spr lo s' off' := by
  obtain ⟨e1, e2, e3, e4, e5, e6, e7⟩ := h
  exact ⟨e1, e2, e3, by rw [h2 49 (by omega)]; exact e4, e5, by rw [h2 50 (by omega)]; exact e6, fun i hi => ⟨by rw [h1 i hi]; exact (e7 i hi).1, by rw [h2 i (by omega)]; exact (e7 i hi).2⟩⟩
theorem sim_remember {n : Nat} {hk hn : Int32} {rspr rlo : Nat → Int32} {rsp : Nat → Nat → Int32} {mk : Int32} {past : Nat → Int32} (h : RHi n hk hn rspr rlo rsp mk past) {g : Nat → Nat} {a b : Nat} {sp : Nat → Int32} {spr lo : Int32} {s : Nat → Int32} (hR : RS n g a b sp spr lo s 0) :
    ∃ o1 o2, f_X1_remember hk hn rspr rlo rsp spr lo sp = some o1 ∧ f_X8_keeps mk past s = some o2 ∧ RHi n o1.1 o1.2.1 o1.2.2.1 o1.2.2.2.1 o1.2.2.2.2 o2.1 o2.2 := by
  obtain ⟨kn, nx, h1, h2, rfl, rfl, rfl, h3⟩ := h
  rw [q_keeps s past h1]
  have hm : (if nI kn + nI 1 < nI 10 then nI kn + nI 1 else nI 10) = nI (min (kn + 1) 10) := by rw [nI_add, qmin (by omega) (by omega)]
  have e1 : f_X1_remember (nI kn) (nI nx) rspr rlo rsp spr lo sp = some (nI (min (kn + 1) 10), nI ((nx + 1) % 10), va_up rspr nx spr, va_up rlo nx lo, va_up rsp nx (cpy sp (rsp nx) 0 0 49)) := by
    unfold f_X1_remember f_X1_remember_J35
    simp only [L0, L1, L2, L3, L4, L5, L6, L7, L8, L9, L10, L11, L12, L13, L19, L20, L26, L31, L32, L33, L48, L49, L50, L51, L57, L59, L60, L61, L98, L99, L100, L108, L112, L115, L127, L128, L200, L201, L255, L256, L257, L400, L401, L420, L459, L999, L1000, L5940]
    rw [qck h2 (by omega), qcl (by omega), q_become, qbd, hm]
    by_cases c : 10 ≤ nx + 1
    · rw [if_pos (by rw [nI_add]; exact nI_le c (by omega)), show (nx + 1) % 10 = 0 by omega]
    · rw [if_neg (by rw [nI_add, nI_leI (by omega) (by omega)]; exact c), nI_add, show (nx + 1) % 10 = nx + 1 by omega]
  rw [e1]
  refine ⟨_, _, rfl, rfl, min (kn + 1) 10, (nx + 1) % 10, by omega, by omega, rfl, rfl, ?_, fun k hkk => ?_⟩
  · by_cases e : kn = 10
    · subst e; rfl
    · rw [if_neg e, show min (kn + 1) 10 = kn + 1 by omega]
  · dsimp only
    by_cases e : kn = 10
    · subst e
      rw [if_pos rfl]
      by_cases ek : k = 9
      · subst ek
        rw [show ((nx + 1) % 10 + 10 - min (10 + 1) 10 + 9) % 10 = nx by omega, qv_s, qv_s, qv_s]
        refine ⟨g, a, b, hR.copy (fun x hx => ?_) (fun x hx => ?_)⟩
        · have := cpy_in sp (rsp nx) 0 0 49 hx
          rw [Nat.zero_add] at this
          exact this
        · exact cpy_in s _ 0 459 51 hx
      · have hk9 : k < 9 := by omega
        obtain ⟨g', a', b', hr⟩ := h3 (k + 1) (by omega)
        have ei : ((nx + 1) % 10 + 10 - min (10 + 1) 10 + k) % 10 = (nx + 10 - 10 + (k + 1)) % 10 := by omega
        have en : (nx + 10 - 10 + (k + 1)) % 10 ≠ nx := by omega
        rw [ei, qv_n en, qv_n en, qv_n en]
        refine ⟨g', a', b', hr.copy (fun x hx => rfl) (fun x hx => ?_)⟩
        dsimp only
        rw [cpy_out s _ 0 459 51 (x := 51 * k + x) (by omega)]
        have := cpy_in past past 51 0 459 (show 51 * k + x < 459 by omega)
        rw [Nat.zero_add] at this
        rw [this]
        congr 1
        omega
    · rw [if_neg e]
      by_cases ek : k = kn
      · subst ek
        rw [show ((nx + 1) % 10 + 10 - min (k + 1) 10 + k) % 10 = nx by omega, qv_s, qv_s, qv_s]
        refine ⟨g, a, b, hR.copy (fun x hx => ?_) (fun x hx => ?_)⟩
        · have := cpy_in sp (rsp nx) 0 0 49 hx
          rw [Nat.zero_add] at this
          exact this
        · exact cpy_in s past 0 (51 * k) 51 hx
      · obtain ⟨g', a', b', hr⟩ := h3 k (by omega)
        have ei : ((nx + 1) % 10 + 10 - min (kn + 1) 10 + k) % 10 = (nx + 10 - kn + k) % 10 := by omega
        have en : (nx + 10 - kn + k) % 10 ≠ nx := by omega
        rw [ei, qv_n en, qv_n en, qv_n en]
        refine ⟨g', a', b', hr.copy (fun x hx => rfl) (fun x hx => ?_)⟩
        exact cpy_out s past 0 (51 * kn) 51 (by omega)
theorem sim_undo {n : Nat} {hk hn : Int32} {rspr rlo : Nat → Int32} {rsp : Nat → Nat → Int32} {mk : Int32} {past : Nat → Int32} (h : RHi n hk hn rspr rlo rsp mk past) {g : Nat → Nat} {a b : Nat} {sp : Nat → Int32} {spr lo : Int32} {s : Nat → Int32} (hR : RS n g a b sp spr lo s 0) :
    ∃ o1 o2, f_X7_undo hk hn rspr rlo rsp spr lo sp = some o1 ∧ f_X8_undo mk past s = some o2 ∧ o1.1 = o2.1 ∧ RHi n o1.2.1 o1.2.2.1 rspr rlo rsp o2.2.1 past ∧ ∃ g' a' b', RS n g' a' b' o1.2.2.2.2.2 o1.2.2.2.1 o1.2.2.2.2.1 o2.2.2 0 := by
  have h0 := h
  obtain ⟨kn, nx, h1, h2, rfl, rfl, rfl, h3⟩ := h
  by_cases e : kn = 0
  · subst e
    unfold f_X7_undo f_X8_undo
    simp (disch := omega) only [L0, L1, L2, L3, L4, L5, L6, L7, L8, L9, L10, L11, L12, L13, L19, L20, L26, L31, L32, L33, L48, L49, L50, L51, L57, L59, L60, L61, L98, L99, L100, L108, L112, L115, L127, L128, L200, L201, L255, L256, L257, L400, L401, L420, L459, L999, L1000, L5940, nI_add, pk_mul, qle, qlt, qeq, qcl, qck, qbd, qsub, if_pos, if_neg]
    exact ⟨_, _, rfl, rfl, rfl, h0, g, a, b, hR⟩
  · rw [q_undo s past h1 e]
    have e1 : f_X7_undo (nI kn) (nI nx) rspr rlo rsp spr lo sp = some (nI (kn - 1), nI (kn - 1), nI ((nx + 9) % 10), rspr ((nx + 9) % 10), rlo ((nx + 9) % 10), cpy (rsp ((nx + 9) % 10)) sp 0 0 49) := by
      unfold f_X7_undo f_X1_restore f_X1_restore_J19
      by_cases c : nx = 0
      · subst c
        simp (disch := omega) only [L0, L1, L2, L3, L4, L5, L6, L7, L8, L9, L10, L11, L12, L13, L19, L20, L26, L31, L32, L33, L48, L49, L50, L51, L57, L59, L60, L61, L98, L99, L100, L108, L112, L115, L127, L128, L200, L201, L255, L256, L257, L400, L401, L420, L459, L999, L1000, L5940, nI_add, pk_mul, qle, qlt, qeq, qcl, qck, qbd, qsub, if_pos, if_neg]
        rw [q_become, qbd, qbd]
      · simp (disch := omega) only [L0, L1, L2, L3, L4, L5, L6, L7, L8, L9, L10, L11, L12, L13, L19, L20, L26, L31, L32, L33, L48, L49, L50, L51, L57, L59, L60, L61, L98, L99, L100, L108, L112, L115, L127, L128, L200, L201, L255, L256, L257, L400, L401, L420, L459, L999, L1000, L5940, nI_add, pk_mul, qle, qlt, qeq, qcl, qck, qbd, qsub, if_pos, if_neg]
        rw [q_become, qbd, qbd, show (nx + 9) % 10 = nx - 1 by omega]
    rw [e1]
    refine ⟨_, _, rfl, rfl, rfl, ⟨kn - 1, (nx + 9) % 10, by omega, by omega, rfl, rfl, rfl, fun k hkk => ?_⟩, ?_⟩
    · rw [show ((nx + 9) % 10 + 10 - (kn - 1) + k) % 10 = (nx + 10 - kn + k) % 10 by omega]
      exact h3 k (by omega)
    · obtain ⟨g', a', b', hr⟩ := h3 (kn - 1) (by omega)
      rw [show (nx + 10 - kn + (kn - 1)) % 10 = (nx + 9) % 10 by omega] at hr
      refine ⟨g', a', b', hr.copy (fun x hx => ?_) (fun x hx => ?_)⟩
      · have := cpy_in (rsp ((nx + 9) % 10)) sp 0 0 49 hx
        rw [Nat.zero_add] at this
        exact this
      · exact cpy_in past s (51 * (kn - 1)) 0 51 hx
theorem sim_keep {n : Nat} {kp ispr ilo : Nat → Int32} {isp : Nat → Nat → Int32} {mkp mimg : Nat → Int32} (h : RI n kp ispr ilo isp mkp mimg) {g : Nat → Nat} {a b : Nat} {sp : Nat → Int32} {spr lo : Int32} {s : Nat → Int32} (hR : RS n g a b sp spr lo s 0) (v : Int32) :
    ∃ o1 o2, f_X7_keep ispr ilo isp spr lo sp kp v = some o1 ∧ f_X8_keep s mimg mkp v = some o2 ∧ o1.1 = o2.1 ∧ RI n o1.2.2.2.2 o1.2.1 o1.2.2.1 o1.2.2.2.1 o2.2.2 o2.2.1 := by
  unfold f_X7_keep f_X8_keep
  simp only [L0, L1, L2, L3, L4, L5, L6, L7, L8, L9, L10, L11, L12, L13, L19, L20, L26, L31, L32, L33, L48, L49, L50, L51, L57, L59, L60, L61, L98, L99, L100, L108, L112, L115, L127, L128, L200, L201, L255, L256, L257, L400, L401, L420, L459, L999, L1000, L5940]
  rcases in_cases v (a := 0) (b := 1) (by omega) (by omega) with ⟨e1, e2⟩ | ⟨i, -, hi, rfl, e1, e2⟩
  · rw [e1, e2]
    simp (disch := omega) only [L0, L1, L2, L3, L4, L5, L6, L7, L8, L9, L10, L11, L12, L13, L19, L20, L26, L31, L32, L33, L48, L49, L50, L51, L57, L59, L60, L61, L98, L99, L100, L108, L112, L115, L127, L128, L200, L201, L255, L256, L257, L400, L401, L420, L459, L999, L1000, L5940, nI_add, pk_mul, qle, qlt, qeq, qcl, qck, qbd, qsub, if_pos, if_neg]
    exact ⟨_, _, rfl, rfl, rfl, h⟩
  · rw [e1, e2, q_keepL s mimg mkp (show i < 2 by omega), q_become]
    simp (disch := omega) only [L0, L1, L2, L3, L4, L5, L6, L7, L8, L9, L10, L11, L12, L13, L19, L20, L26, L31, L32, L33, L48, L49, L50, L51, L57, L59, L60, L61, L98, L99, L100, L108, L112, L115, L127, L128, L200, L201, L255, L256, L257, L400, L401, L420, L459, L999, L1000, L5940, nI_add, pk_mul, qle, qlt, qeq, qcl, qck, qbd, qsub, if_pos, if_neg]
    refine ⟨_, _, rfl, rfl, ?_, fun j hj => ?_⟩
    · have := hR.2.2.2.1
      rw [Nat.zero_add] at this
      rw [this]
      exact hR.2.2.1
    · dsimp only
      by_cases ej : j = i
      · subst ej
        right
        rw [qu_s, qu_s, qv_s, qv_s, qv_s]
        refine ⟨rfl, rfl, g, a, b, hR.copy (fun x hx => ?_) (fun x hx => ?_)⟩
        · have := cpy_in sp (isp j) 0 0 49 hx
          rw [Nat.zero_add] at this
          exact this
        · exact cpy_in s mimg 0 (51 * j) 51 hx
      · rw [qu_n ej, qu_n ej, qv_n ej, qv_n ej, qv_n ej]
        rcases h j hj with w | ⟨w1, w2, g', a', b', w3⟩
        · exact Or.inl w
        · exact Or.inr ⟨w1, w2, g', a', b', w3.copy (fun x hx => rfl) (fun x hx => cpy_out s mimg 0 (51 * i) 51 (by omega))⟩
theorem sim_back {n : Nat} {kp ispr ilo : Nat → Int32} {isp : Nat → Nat → Int32} {mkp mimg : Nat → Int32} (h : RI n kp ispr ilo isp mkp mimg) {hk hn : Int32} {rspr rlo : Nat → Int32} {rsp : Nat → Nat → Int32} {mk : Int32} {past : Nat → Int32} (hh : RHi n hk hn rspr rlo rsp mk past) {g : Nat → Nat} {a b : Nat} {sp : Nat → Int32} {spr lo : Int32} {s : Nat → Int32} (hR : RS n g a b sp spr lo s 0) (v : Int32) :
    ∃ o1 o2, f_X7_back kp ispr ilo isp spr lo sp hk v = some o1 ∧ f_X8_back mk mkp mimg s v = some o2 ∧ o1.1 = o2.1 ∧ RHi n o1.2.2.2.2 hn rspr rlo rsp o2.2.1 past ∧ ∃ g' a' b', RS n g' a' b' o1.2.2.2.1 o1.2.1 o1.2.2.1 o2.2.2 0 := by
  unfold f_X7_back f_X8_back
  simp only [L0, L1, L2, L3, L4, L5, L6, L7, L8, L9, L10, L11, L12, L13, L19, L20, L26, L31, L32, L33, L48, L49, L50, L51, L57, L59, L60, L61, L98, L99, L100, L108, L112, L115, L127, L128, L200, L201, L255, L256, L257, L400, L401, L420, L459, L999, L1000, L5940]
  rcases in_cases v (a := 0) (b := 1) (by omega) (by omega) with ⟨e1, e2⟩ | ⟨i, -, hi, rfl, e1, e2⟩
  · rw [e1, e2]
    simp (disch := omega) only [L0, L1, L2, L3, L4, L5, L6, L7, L8, L9, L10, L11, L12, L13, L19, L20, L26, L31, L32, L33, L48, L49, L50, L51, L57, L59, L60, L61, L98, L99, L100, L108, L112, L115, L127, L128, L200, L201, L255, L256, L257, L400, L401, L420, L459, L999, L1000, L5940, nI_add, pk_mul, qle, qlt, qeq, qcl, qck, qbd, qsub, if_pos, if_neg]
    exact ⟨_, _, rfl, rfl, rfl, hh, g, a, b, hR⟩
  · rw [e1, e2]
    rcases h i (by omega) with ⟨w1, w2⟩ | ⟨w1, w2, g', a', b', w3⟩
    · rw [qcl (by omega), w1, w2]
      simp (disch := omega) only [L0, L1, L2, L3, L4, L5, L6, L7, L8, L9, L10, L11, L12, L13, L19, L20, L26, L31, L32, L33, L48, L49, L50, L51, L57, L59, L60, L61, L98, L99, L100, L108, L112, L115, L127, L128, L200, L201, L255, L256, L257, L400, L401, L420, L459, L999, L1000, L5940, nI_add, pk_mul, qle, qlt, qeq, qcl, qck, qbd, qsub, if_pos, if_neg]
      exact ⟨_, _, rfl, rfl, rfl, hh, g, a, b, hR⟩
    · rw [qcl (by omega), w1, w2, q_backL s mimg (show i < 2 by omega), q_become]
      simp (disch := omega) only [L0, L1, L2, L3, L4, L5, L6, L7, L8, L9, L10, L11, L12, L13, L19, L20, L26, L31, L32, L33, L48, L49, L50, L51, L57, L59, L60, L61, L98, L99, L100, L108, L112, L115, L127, L128, L200, L201, L255, L256, L257, L400, L401, L420, L459, L999, L1000, L5940, nI_add, pk_mul, qle, qlt, qeq, qcl, qck, qbd, qsub, if_pos, if_neg]
      refine ⟨_, _, rfl, rfl, ?_, ?_, g', a', b', w3.copy (fun x hx => ?_) (fun x hx => ?_)⟩
      · exact w3.2.2.1.trans w3.2.2.2.1.symm
      · obtain ⟨kn, nx, h1, h2, rfl, rfl, rfl, h3⟩ := hh
        exact ⟨0, nx, by omega, h2, rfl, rfl, rfl, fun k hk => absurd hk (by omega)⟩
      · have := cpy_in (isp i) sp 0 0 49 hx
        rw [Nat.zero_add] at this
        exact this
      · exact cpy_in mimg s (51 * i) 0 51 hx
