theorem sim_house {n : Nat} {Y K T : Nat → Nat} {le sh : Nat} {hp hl hs : Int32} {hy hk ht hb td : Nat → Int32} (h : RH n Y K T le sh hp hl hs hy hk ht hb td) {g : Nat → Nat} {a b : Nat} {sp : Nat → Int32} {spr lo' : Int32} {s : Nat → Int32} (hR : RS n g a b sp spr lo' s 0) {tl mt : Int32} {tx mx : Nat → Int32} (hT : RT tl tx mt mx)
    {kn nx mk : Int32} {rspr rlo : Nat → Int32} {rsp : Nat → Nat → Int32} {past : Nat → Int32} (hH : RHi n kn nx rspr rlo rsp mk past) {kp ispr ilo mkp mimg : Nat → Int32} {isp : Nat → Nat → Int32} (hI : RI n kp ispr ilo isp mkp mimg) {ts mm : Int32} {tsp tpa tv mn mv : Nat → Int32} (hL : RLv n ts tsp tpa tv mm mn mv)
    (tk s0 nu : Int32) (dy dq dk dt db hq md : Nat → Int32) :
    ∃ (r tl2 x3 x4 x5 x6 x7 x8 x9 x10 x11 : Int32) (x12 x13 x14 x15 x16 : Nat → Int32) (hp2 hl2 hs2 : Int32) (hy2 hq2 hk2 ht2 hb2 : Nat → Int32) (spr2 lo2 : Int32) (sp2 : Nat → Int32) (kn2 ts2 : Int32) (kp2 : Nat → Int32) (mt2 mk2 mm2 y5 y6 y7 y8 : Int32) (md2 td2 s2 mkp2 : Nat → Int32),
      f_X7_house tl tk s0 nu tx dy dq dk dt db hp hl hs hy hq hk ht hb spr lo' sp kn ts kp = some (r, tl2, x3, x4, x5, x6, x7, x8, x9, x10, x11, x12, x13, x14, x15, x16, hp2, hl2, hs2, hy2, hq2, hk2, ht2, hb2, spr2, lo2, sp2, kn2, ts2, kp2) ∧
      f_X8_house mt mk mm md mx td s mkp = some (r, mt2, mk2, mm2, y5, y6, y7, y8, md2, td2, s2, mkp2) ∧
      RT tl2 tx mt2 mx ∧ ∃ (n' : Nat) (Y' K' T' : Nat → Nat) (le' sh' : Nat) (g' : Nat → Nat) (a' b' : Nat), RH n' Y' K' T' le' sh' hp2 hl2 hs2 hy2 hk2 ht2 hb2 td2 ∧ RS n' g' a' b' sp2 spr2 lo2 s2 0 ∧ RHi n' kn2 nx rspr rlo rsp mk2 past ∧ RI n' kp2 ispr ilo isp mkp2 mimg ∧ RLv n' ts2 tsp tpa tv mm2 mn mv := by
  have hT' := hT
  obtain ⟨len, hlen, e1, e2, c, hc⟩ := hT
  obtain ⟨Z, z1, z2⟩ := reads0 (len := len) md mx
  have start : RD 0 Y Y K T 5 60 0 0 0 dy dq dk dt db (upd (upd Z 1 (nI 5)) 2 (nI 60)) := by
    refine ⟨by omega, by omega, by omega, by omega, by omega, ?_, ?_, qu_s, ?_, ?_, fun j hj => absurd hj (by omega), fun _ => 0, fun i hi => absurd hi (by omega), fun i j h1 h2 => absurd h2 (by omega)⟩
    · rw [qu_n (by omega), qu_n (by omega)]; exact z1 0 (by omega)
    · rw [qu_n (by omega), qu_s]
    · rw [qu_n (by omega), qu_n (by omega)]; exact z1 3 (by omega)
    · rw [qu_n (by omega), qu_n (by omega)]; exact z1 4 (by omega)
  have cl : f_X6_read (nI len) tk s0 nu tx dy dq dk dt db = f_X6_read_L24 (nI len) tx FU (nI 0) (nI 0) (nI 0) (nI 0) tk s0 nu (nI 0) (nI 5) (nI 60) dy dq dk dt db := by
    unfold f_X6_read f_X2_empty
    rw [qbd, L0, L5, L60]
  have main := read_loop hc hlen 9 (f1 := FU) (f2 := FU) (p := 0) tk s0 nu (by omega) (fu (by omega)) (fu (by omega)) (by omega) start (by omega)
  rw [← cl, ← z2] at main
  unfold f_X7_house f_X8_house
  rw [e1, e2]
  rcases main with ⟨s1, q0, ⟨o, q1, q2⟩, q, q3, q4, q5⟩ | ⟨n', Y', S', K', T', le', sh', lt', st', it', ys', ss', ks', ts', ba', m', q1, q2, ⟨a1, a2, a3, a4, a5, a6, q3⟩, b1, b2, b3, b4, q4⟩
  · rw [q1, q3, qbd, qbd, L0, L10, if_pos q4, q5, q2]
    have neg : ¬ nI 0 ≤ -nI 10 - nI s1 := by
      rw [Int32.le_iff_toInt_le, Int32.toInt_sub, nI_toInt (show s1 < 2147483648 by omega), show (-nI 10 : Int32).toInt = -10 by decide, show (nI 0).toInt = 0 by decide]
      rw [show (-10 - (s1 : Int)).bmod (2 ^ 32) = -10 - (s1 : Int) from by rw [Int.bmod_def]; omega]
      omega
    rw [if_neg neg]
    refine ⟨_, _, _, _, _, _, _, _, _, _, _, _, _, _, _, _, _, _, _, _, _, _, _, _, _, _, _, _, _, _, _, _, _, _, _, _, _, _, _, _, _, rfl, rfl, ?_, n, Y, K, T, le, sh, g, a, b, h, hR, hH, hI, hL⟩
    exact ⟨len, hlen, rfl, rfl, c, hc⟩
  · obtain ⟨n1, n2, n3, n4, n5, n6, n7, n8, n9, n10, n11, n12⟩ := q1
    obtain ⟨hy2, hq2, hk2, ht2, hb2, g1, g2⟩ := q_bec (dp := nI n') (dl := nI le') (ds := nI sh') (y1 := ys') (y2 := hy) (s1 := ss') (s2 := hq) (k1 := ks') (k2 := hk) (t1 := ts') (t2 := ht) (b1 := ba') (b2 := hb)
    obtain ⟨sp2, f1, f2⟩ := q_fill (S := S') (sp := sp) (ss := hq2) n1 (fun j hj => by rw [(g2 j (by omega)).2.1]; exact (n11 j hj).2.2.2.2.2.2.1)
    obtain ⟨td2, s2, kp2, t1, t2, t3, t4, t5, t6, t7⟩ := q_tells (S := S') (m := m') (td0 := td) (s0 := s) (kp0 := mkp) n1 n6 (fun j hj => (n11 j hj).2.2.2.2.2.2.2.1)
    rw [q3, q4, qbd, qbd, L0, if_pos (show nI 0 ≤ nI it' from nI_le (Nat.zero_le _) (by omega)), if_neg (show ¬ nI 1 = nI 0 by decide)]
    dsimp only
    rw [g1, qbd, t1, qbd]
    dsimp only
    rw [f1, qbd, L3, qck (show 3 < 33 by omega) (by omega), qcl (show 3 < 2147483648 by omega), t2 3 (by omega), n9]
    dsimp only
    have kk := q_kp (nI it') (nI 0) a1 a2 a3 a4 a5 a6 (nI n') (nI le') (nI sh') ys' ss' ks' ts' ba' (nI n') (nI le') (nI sh') hy2 hq2 hk2 ht2 hb2 (nI 0) (nI 0) sp2 (nI 0) (nI 0) kp
    rw [L0] at kk
    rw [kk]
    refine ⟨_, _, _, _, _, _, _, _, _, _, _, _, _, _, _, _, _, _, _, _, _, _, _, _, _, _, _, _, _, _, _, _, _, _, _, _, _, _, _, _, _, rfl, rfl, ⟨0, by omega, rfl, rfl, c, fun j hj => absurd hj (by omega)⟩, n', Y', K', T', le', sh', dia S' n', 0, 0, ?_, ?_, ?_, ?_, ?_⟩
    · refine ⟨n1, n2, n3, rfl, ?_, rfl, ?_, rfl, ?_, fun j hj => ?_, ?_⟩
      · rw [t2 0 (by omega)]; exact n6
      · rw [t2 1 (by omega)]; exact n7
      · rw [t2 2 (by omega)]; exact n8
      · obtain ⟨z1, z2, z3, z4, z5, z6, z7, z8, z9, z10, z11, z12⟩ := n11 j hj
        obtain ⟨w1, w2, w3, w4, w5⟩ := g2 j (by omega)
        exact ⟨z1, z3, z4, by rw [w1]; exact z5, by rw [t2 _ (by omega)]; exact z6, by rw [w3]; exact z9, by rw [t2 _ (by omega)]; exact z10, by rw [w4]; exact z11, by rw [t2 _ (by omega)]; exact z12⟩
      · obtain ⟨o, o1, o2⟩ := n12
        exact ⟨o, fun i hi => by rw [(g2 i (by omega)).2.2.2.2]; exact o1 i hi, o2⟩
    · refine ⟨dia_vg n1 (fun j hj => (n11 j hj).2.1), by omega, rfl, ?_, rfl, ?_, fun i hi => ⟨f2 i hi, ?_⟩⟩
      · exact t4
      · exact t5
      · rw [Nat.zero_add]; exact t3 i hi
    · obtain ⟨kn0, nx0, v1, v2, v3, v4, v5, v6⟩ := hH
      exact ⟨0, nx0, by omega, v2, rfl, v4, rfl, fun k hk2 => absurd hk2 (by omega)⟩
    · intro i hi
      left
      rcases (by omega : i = 0 ∨ i = 1) with rfl | rfl
      · exact ⟨by rw [qu_n (by omega), qu_s], t6⟩
      · exact ⟨qu_s, t7⟩
    · exact ⟨0, by omega, rfl, rfl, fun _ => 0, fun _ => 0, fun _ => 0, fun k hk2 => absurd hk2 (by omega)⟩
