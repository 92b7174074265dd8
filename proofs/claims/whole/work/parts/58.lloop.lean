set_option maxRecDepth 100000 in
set_option maxHeartbeats 4000000 in
theorem law_switch {p : Program} {l : Launch} {e : Env} {s : State} {m : MethodId} {below : List Frame} {meth : Method} {c : Code} {b L : Nat} {xs : Nat → Int32} (C0 : lw_At p s m meth c b L xs) {D : va_G} {cI cZ cR : ClassId} (hE : EV D cI cZ cR s) {a rr rs gr gs : Nat → Nat} {H : Heap} {locs : List Loc} {x_traced : Int64} {house_pans : Int32} {house_least : Int32} {house_shelf : Int32} {house_years : Nat → Int32} {house_spoons : Nat → Int32} {house_shrinks : Nat → Int32} {house_sorts : Nat → Int32} {house_byAge : Nat → Int32} {text_length : Int32} {text_leastTold : Int32} {text_shelfTold : Int32} {text_place : Int32} {text_token : Int32} {text_start : Int32} {text_number : Int32} {text_letters : Nat → Int32} {draft_pans : Int32} {draft_least : Int32} {draft_shelf : Int32} {draft_years : Nat → Int32} {draft_spoons : Nat → Int32} {draft_shrinks : Nat → Int32} {draft_sorts : Nat → Int32} {draft_byAge : Nat → Int32} {rain_springs : Int32} {rain_lost : Int32} {rain_spoons : Nat → Int32} {hist_known : Int32} {hist_next : Int32} {rows_springs : Nat → Int32} {rows_lost : Nat → Int32} {rows_sp : Nat → Nat → Int32} {imgs_springs : Nat → Int32} {imgs_lost : Nat → Int32} {imgs_sp : Nat → Nat → Int32} {kept : Nat → Int32} {told_size : Int32} {told_springs : Nat → Int32} {told_pans : Nat → Int32} {told_spoons : Nat → Int32} {sets_size : Int32} {sets_shelf : Int32} {sets_hail : Int32} {sets_filled : Int32} {sets_weights : Nat → Int32} {sets_fewest : Nat → Int32} {frost_upper : Int32} {frost_lower : Int32} {frost_cases : Nat → Int32} {m_trace : Int64} {m_typed : Int32} {m_known : Int32} {m_many : Int32} {m_at : Int32} {m_sort : Int32} {m_start : Int32} {m_value : Int32} {m_text : Nat → Int32} {m_told : Nat → Int32} {m_draft : Nat → Int32} {m_s : Nat → Int32} {m_past : Nat → Int32} {m_images : Nat → Int32} {m_kept : Nat → Int32} {m_notes : Nat → Int32} {m_noted : Nat → Int32} {m_held : Nat → Int32} {m_few : Nat → Int32} (hPD : PD D (fun q => s.heap.size ≤ q) (WL cI cZ cR a rr rs gr gs x_traced house_pans house_least house_shelf house_years house_spoons house_shrinks house_sorts house_byAge text_length text_leastTold text_shelfTold text_place text_token text_start text_number text_letters draft_pans draft_least draft_shelf draft_years draft_spoons draft_shrinks draft_sorts draft_byAge rain_springs rain_lost rain_spoons hist_known hist_next rows_springs rows_lost rows_sp imgs_springs imgs_lost imgs_sp kept told_size told_springs told_pans told_spoons sets_size sets_shelf sets_hail sets_filled sets_weights sets_fewest frost_upper frost_lower frost_cases m_trace m_typed m_known m_many m_at m_sort m_start m_value m_text m_told m_draft m_s m_past m_images m_kept m_notes m_noted m_held m_few) H) (hR : REL m_trace x_traced text_length text_letters m_typed m_text house_pans house_least house_shelf house_years house_shrinks house_sorts house_byAge m_told rain_spoons rain_springs rain_lost m_s hist_known hist_next rows_springs rows_lost rows_sp m_known m_past kept imgs_springs imgs_lost imgs_sp m_kept m_images told_size told_springs told_pans told_spoons m_many m_notes m_noted) (hS : va_S (fun q => s.heap.size ≤ q) s.heap H locs) {x3 X : Int32} (v1 : vp_in (x3 + 1) L) (v2 : vp_in (x3 + 2) L) (v3 : vp_in (x3 + 3) L) {ls : Array Slot} (hl : lv_has ls 4 [(0, .ref b), (1, .ref (a 0)), (2, .ref (a 30)), (3, .int x3)]) {Q : State → Prop}
    (kk : ∀ (H1 : Heap) (locs1 : List Loc), INV D (fun q => s.heap.size ≤ q) cI cZ cR a rr rs gr gs H1 → va_S (fun q => s.heap.size ≤ q) s.heap H1 locs1 → W p l e room_1 s m #[Value.ref b] below meth c H1 locs1 66 2442 Q (F0 m 848 ls [])) : W p l e room_1 s m #[Value.ref b] below meth c H locs 66 2442 Q (F0 m 32 ls [.int X]) := by
  obtain ⟨hx, hb, -, -, -, -, -, -, -, -⟩ := id C0
  by_cases h0 : X = 0
  · exact lv_tableIn (off := 124) (tgt := 156) hx hb dL_law_32 (by rw [h0]; decide) (by rw [h0]; decide) (by rw [h0]; rfl) (by decide) (lc_type C0 hE hPD hR hS v1 v2 v3 hl kk)
  by_cases h1 : X = 1
  · exact lv_tableIn (off := 147) (tgt := 179) hx hb dL_law_32 (by rw [h1]; decide) (by rw [h1]; decide) (by rw [h1]; rfl) (by decide) (lc_clear C0 hE hPD hR hS v1 v2 v3 hl kk)
  by_cases h2 : X = 2
  · exact lv_tableIn (off := 160) (tgt := 192) hx hb dL_law_32 (by rw [h2]; decide) (by rw [h2]; decide) (by rw [h2]; rfl) (by decide) (lc_house C0 hE hPD hR hS v1 v2 v3 hl kk)
  by_cases h3 : X = 3
  · exact lv_tableIn (off := 173) (tgt := 205) hx hb dL_law_32 (by rw [h3]; decide) (by rw [h3]; decide) (by rw [h3]; rfl) (by decide) (lc_pan C0 hE hPD hR hS v1 v2 v3 hl kk)
  by_cases h4 : X = 4
  · exact lv_tableIn (off := 206) (tgt := 238) hx hb dL_law_32 (by rw [h4]; decide) (by rw [h4]; decide) (by rw [h4]; rfl) (by decide) (lc_holds C0 hE hPD hR hS v1 v2 v3 hl kk)
  by_cases h5 : X = 5
  · exact lv_tableIn (off := 239) (tgt := 271) hx hb dL_law_32 (by rw [h5]; decide) (by rw [h5]; decide) (by rw [h5]; rfl) (by decide) (lc_now C0 hE hPD hR hS v1 v2 v3 hl kk)
  by_cases h6 : X = 6
  · exact lv_tableIn (off := 262) (tgt := 294) hx hb dL_law_32 (by rw [h6]; decide) (by rw [h6]; decide) (by rw [h6]; rfl) (by decide) (lc_uses C0 hE hPD hR hS v1 v2 v3 hl kk)
  by_cases h7 : X = 7
  · exact lv_tableIn (off := 295) (tgt := 327) hx hb dL_law_32 (by rw [h7]; decide) (by rw [h7]; decide) (by rw [h7]; rfl) (by decide) (lc_pours C0 hE hPD hR hS v1 v2 v3 hl kk)
  by_cases h8 : X = 8
  · exact lv_tableIn (off := 338) (tgt := 370) hx hb dL_law_32 (by rw [h8]; decide) (by rw [h8]; decide) (by rw [h8]; rfl) (by decide) (lc_spring C0 hE hPD hR hS v1 v2 v3 hl kk)
  by_cases h9 : X = 9
  · exact lv_tableIn (off := 351) (tgt := 383) hx hb dL_law_32 (by rw [h9]; decide) (by rw [h9]; decide) (by rw [h9]; rfl) (by decide) (lc_splits C0 hE hPD hR hS v1 v2 v3 hl kk)
  by_cases h10 : X = 10
  · exact lv_tableIn (off := 374) (tgt := 406) hx hb dL_law_32 (by rw [h10]; decide) (by rw [h10]; decide) (by rw [h10]; rfl) (by decide) (lc_undo C0 hE hPD hR hS v1 v2 v3 hl kk)
  by_cases h11 : X = 11
  · exact lv_tableIn (off := 387) (tgt := 419) hx hb dL_law_32 (by rw [h11]; decide) (by rw [h11]; decide) (by rw [h11]; rfl) (by decide) (lc_lasts C0 hE hPD hR hS v1 v2 v3 hl kk)
  by_cases h12 : X = 12
  · exact lv_tableIn (off := 410) (tgt := 442) hx hb dL_law_32 (by rw [h12]; decide) (by rw [h12]; decide) (by rw [h12]; rfl) (by decide) (lc_inSprings C0 hE hPD hR hS v1 v2 v3 hl kk)
  by_cases h13 : X = 13
  · exact lv_tableIn (off := 443) (tgt := 475) hx hb dL_law_32 (by rw [h13]; decide) (by rw [h13]; decide) (by rw [h13]; rfl) (by decide) (lc_fire C0 hE hPD hR hS v1 v2 v3 hl kk)
  by_cases h14 : X = 14
  · exact lv_tableIn (off := 476) (tgt := 508) hx hb dL_law_32 (by rw [h14]; decide) (by rw [h14]; decide) (by rw [h14]; rfl) (by decide) (lc_spoil C0 hE hPD hR hS v1 v2 v3 hl kk)
  by_cases h15 : X = 15
  · exact lv_tableIn (off := 499) (tgt := 531) hx hb dL_law_32 (by rw [h15]; decide) (by rw [h15]; decide) (by rw [h15]; rfl) (by decide) (lc_mix C0 hE hPD hR hS v1 v2 v3 hl kk)
  by_cases h16 : X = 16
  · exact lv_tableIn (off := 542) (tgt := 574) hx hb dL_law_32 (by rw [h16]; decide) (by rw [h16]; decide) (by rw [h16]; rfl) (by decide) (lc_levels C0 hE hPD hR hS v1 v2 v3 hl kk)
  by_cases h17 : X = 17
  · exact lv_tableIn (off := 585) (tgt := 617) hx hb dL_law_32 (by rw [h17]; decide) (by rw [h17]; decide) (by rw [h17]; rfl) (by decide) (lc_forget C0 hE hPD hR hS v1 v2 v3 hl kk)
  by_cases h18 : X = 18
  · exact lv_tableIn (off := 598) (tgt := 630) hx hb dL_law_32 (by rw [h18]; decide) (by rw [h18]; decide) (by rw [h18]; rfl) (by decide) (lc_theft C0 hE hPD hR hS v1 v2 v3 hl kk)
  by_cases h19 : X = 19
  · exact lv_tableIn (off := 621) (tgt := 653) hx hb dL_law_32 (by rw [h19]; decide) (by rw [h19]; decide) (by rw [h19]; rfl) (by decide) (lc_shelves C0 hE hPD hR hS v1 v2 v3 hl kk)
  by_cases h20 : X = 20
  · exact lv_tableIn (off := 634) (tgt := 666) hx hb dL_law_32 (by rw [h20]; decide) (by rw [h20]; decide) (by rw [h20]; rfl) (by decide) (lc_beside C0 hE hPD hR hS v1 v2 v3 hl kk)
  by_cases h21 : X = 21
  · exact lv_tableIn (off := 657) (tgt := 689) hx hb dL_law_32 (by rw [h21]; decide) (by rw [h21]; decide) (by rw [h21]; rfl) (by decide) (lc_odds C0 hE hPD hR hS v1 v2 v3 hl kk)
  by_cases h22 : X = 22
  · exact lv_tableIn (off := 700) (tgt := 732) hx hb dL_law_32 (by rw [h22]; decide) (by rw [h22]; decide) (by rw [h22]; rfl) (by decide) (lc_rate C0 hE hPD hR hS v1 v2 v3 hl kk)
  by_cases h23 : X = 23
  · exact lv_tableIn (off := 733) (tgt := 765) hx hb dL_law_32 (by rw [h23]; decide) (by rw [h23]; decide) (by rw [h23]; rfl) (by decide) (lc_keep C0 hE hPD hR hS v1 v2 v3 hl kk)
  by_cases h24 : X = 24
  · exact lv_tableIn (off := 756) (tgt := 788) hx hb dL_law_32 (by rw [h24]; decide) (by rw [h24]; decide) (by rw [h24]; rfl) (by decide) (lc_back C0 hE hPD hR hS v1 v2 v3 hl kk)
  by_cases h25 : X = 25
  · exact lv_tableIn (off := 779) (tgt := 811) hx hb dL_law_32 (by rw [h25]; decide) (by rw [h25]; decide) (by rw [h25]; rfl) (by decide) (lc_count C0 hE hPD hR hS v1 v2 v3 hl kk)
  by_cases h26 : X = 26
  · exact lv_tableIn (off := 802) (tgt := 834) hx hb dL_law_32 (by rw [h26]; decide) (by rw [h26]; decide) (by rw [h26]; rfl) (by decide) (lc_trace C0 hE hPD hR hS v1 v2 v3 hl kk)
  refine lv_tableOut (tgt := 848) hx hb dL_law_32 ?_ (by decide) (kk _ _ ⟨x_traced, house_pans, house_least, house_shelf, house_years, house_spoons, house_shrinks, house_sorts, house_byAge, text_length, text_leastTold, text_shelfTold, text_place, text_token, text_start, text_number, text_letters, draft_pans, draft_least, draft_shelf, draft_years, draft_spoons, draft_shrinks, draft_sorts, draft_byAge, rain_springs, rain_lost, rain_spoons, hist_known, hist_next, rows_springs, rows_lost, rows_sp, imgs_springs, imgs_lost, imgs_sp, kept, told_size, told_springs, told_pans, told_spoons, sets_size, sets_shelf, sets_hail, sets_filled, sets_weights, sets_fewest, frost_upper, frost_lower, frost_cases, m_trace, m_typed, m_known, m_many, m_at, m_sort, m_start, m_value, m_text, m_told, m_draft, m_s, m_past, m_images, m_kept, m_notes, m_noted, m_held, m_few, hPD, hR⟩ hS)
  have q0 : ¬ X.toInt = 0 := fun e => h0 (Int32.toInt_inj.mp (e.trans (by decide)))
  have q1 : ¬ X.toInt = 1 := fun e => h1 (Int32.toInt_inj.mp (e.trans (by decide)))
  have q2 : ¬ X.toInt = 2 := fun e => h2 (Int32.toInt_inj.mp (e.trans (by decide)))
  have q3 : ¬ X.toInt = 3 := fun e => h3 (Int32.toInt_inj.mp (e.trans (by decide)))
  have q4 : ¬ X.toInt = 4 := fun e => h4 (Int32.toInt_inj.mp (e.trans (by decide)))
  have q5 : ¬ X.toInt = 5 := fun e => h5 (Int32.toInt_inj.mp (e.trans (by decide)))
  have q6 : ¬ X.toInt = 6 := fun e => h6 (Int32.toInt_inj.mp (e.trans (by decide)))
  have q7 : ¬ X.toInt = 7 := fun e => h7 (Int32.toInt_inj.mp (e.trans (by decide)))
  have q8 : ¬ X.toInt = 8 := fun e => h8 (Int32.toInt_inj.mp (e.trans (by decide)))
  have q9 : ¬ X.toInt = 9 := fun e => h9 (Int32.toInt_inj.mp (e.trans (by decide)))
  have q10 : ¬ X.toInt = 10 := fun e => h10 (Int32.toInt_inj.mp (e.trans (by decide)))
  have q11 : ¬ X.toInt = 11 := fun e => h11 (Int32.toInt_inj.mp (e.trans (by decide)))
  have q12 : ¬ X.toInt = 12 := fun e => h12 (Int32.toInt_inj.mp (e.trans (by decide)))
  have q13 : ¬ X.toInt = 13 := fun e => h13 (Int32.toInt_inj.mp (e.trans (by decide)))
  have q14 : ¬ X.toInt = 14 := fun e => h14 (Int32.toInt_inj.mp (e.trans (by decide)))
  have q15 : ¬ X.toInt = 15 := fun e => h15 (Int32.toInt_inj.mp (e.trans (by decide)))
  have q16 : ¬ X.toInt = 16 := fun e => h16 (Int32.toInt_inj.mp (e.trans (by decide)))
  have q17 : ¬ X.toInt = 17 := fun e => h17 (Int32.toInt_inj.mp (e.trans (by decide)))
  have q18 : ¬ X.toInt = 18 := fun e => h18 (Int32.toInt_inj.mp (e.trans (by decide)))
  have q19 : ¬ X.toInt = 19 := fun e => h19 (Int32.toInt_inj.mp (e.trans (by decide)))
  have q20 : ¬ X.toInt = 20 := fun e => h20 (Int32.toInt_inj.mp (e.trans (by decide)))
  have q21 : ¬ X.toInt = 21 := fun e => h21 (Int32.toInt_inj.mp (e.trans (by decide)))
  have q22 : ¬ X.toInt = 22 := fun e => h22 (Int32.toInt_inj.mp (e.trans (by decide)))
  have q23 : ¬ X.toInt = 23 := fun e => h23 (Int32.toInt_inj.mp (e.trans (by decide)))
  have q24 : ¬ X.toInt = 24 := fun e => h24 (Int32.toInt_inj.mp (e.trans (by decide)))
  have q25 : ¬ X.toInt = 25 := fun e => h25 (Int32.toInt_inj.mp (e.trans (by decide)))
  have q26 : ¬ X.toInt = 26 := fun e => h26 (Int32.toInt_inj.mp (e.trans (by decide)))
  omega
set_option maxRecDepth 100000 in
set_option maxHeartbeats 4000000 in
theorem law_loop {p : Program} {l : Launch} {e : Env} {s : State} {m : MethodId} {below : List Frame} {meth : Method} {c : Code} {b L : Nat} {xs : Nat → Int32} (hL : L ≤ 256) (C0 : lw_At p s m meth c b L xs) {D : va_G} {cI cZ cR : ClassId} (hE : EV D cI cZ cR s) {a rr rs gr gs : Nat → Nat} :
    ∀ (n i : Nat), i ≤ L → L < i + 4 * n → ∀ (H : Heap) (locs : List Loc), INV D (fun q => s.heap.size ≤ q) cI cZ cR a rr rs gr gs H → va_S (fun q => s.heap.size ≤ q) s.heap H locs → ∀ (ls : Array Slot), lv_has ls 4 [(0, .ref b), (1, .ref (a 0)), (2, .ref (a 30)), (3, .int (nI i))] → W p l e room_1 s m #[Value.ref b] below meth c H locs 66 2442 (lw_Z below #[Value.ref b] s) (F0 m 18 ls []) := by
  obtain ⟨hx, hb, hr, hml, hown, hts, hX, hbl, hlocks, hgv⟩ := id C0
  have hbA : ¬ (fun q : Nat => s.heap.size ≤ q) b := Nat.not_le.mpr hbl
  intro n
  induction n with
  | zero => intro i h1 h2; omega
  | succ n ih =>
    intro i h1 h2 H locs hV hS ls hl
    refine lv_iload_n hx hb dL_law_18 rfl (lv_at hl 3 rfl) ?_
    refine lv_aload_n hx hb dL_law_19 rfl (lv_at hl 0 rfl) ?_
    refine va_slen hx hb hX hbl hbA hS dL_law_20 ?_
    refine lv_iconst (v := 4) hx hb dL_law_21 (by decide) ?_
    refine lv_isub hx hb dL_law_22 ?_
    refine lv_icmp_gt (tgt := 854) hx hb dL_law_23 (by decide) (fun hc => ?_) (fun hc => ?_)
    · refine lv_iconst (v := 1) hx hb dL_law_854 (by decide) ?_
      refine va_forget (fun q hq => hS.2.2 q hq) ?_
      refine W.widen (k := 600000) (n := 7302250) (Nat.le_of_ble_eq_true rfl) (Nat.le_of_ble_eq_true rfl) ?_
      exact lw_ret hx hb hr hlocks dL_law_855
    · have h4 : i + 4 ≤ L := by
        apply Classical.byContradiction
        intro hh
        apply hc
        rw [Int32.lt_iff_toInt_lt, nI_toInt (by omega), show Int32.ofNat L = nI L from rfl, Int32.toInt_sub, nI_toInt (by omega), show (4 : Int32).toInt = 4 by decide]
        rw [show ((L : Int) - 4).bmod (2 ^ 32) = (L : Int) - 4 from by rw [Int.bmod_def]; omega]
        omega
      have v0 : vp_in (nI i) L := vp_in_nI (by omega) (by omega)
      have v1 : vp_in (nI i + 1) L := by rw [show nI i + 1 = nI (i + 1) from nI_add i 1]; exact vp_in_nI (by omega) (by omega)
      have v2 : vp_in (nI i + 2) L := by rw [show nI i + 2 = nI (i + 2) from nI_add i 2]; exact vp_in_nI (by omega) (by omega)
      have v3 : vp_in (nI i + 3) L := by rw [show nI i + 3 = nI (i + 3) from nI_add i 3]; exact vp_in_nI (by omega) (by omega)
      refine lv_aload_n hx hb dL_law_26 rfl (lv_at hl 0 rfl) ?_
      refine lv_iload_n hx hb dL_law_27 rfl (lv_at hl 3 rfl) ?_
      refine va_sld hx hb hX hbl hbA hS v0 dL_law_28 ?_
      refine lv_bipush (v := 31) hx hb dL_law_29 (by decide) ?_
      refine lv_iand hx hb dL_law_31 ?_
      have kk : ∀ (H1 : Heap) (locs1 : List Loc), INV D (fun q => s.heap.size ≤ q) cI cZ cR a rr rs gr gs H1 → va_S (fun q => s.heap.size ≤ q) s.heap H1 locs1 → W p l e room_1 s m #[Value.ref b] below meth c H1 locs1 66 2442 (lw_Z below #[Value.ref b] s) (F0 m 848 ls []) := by
        intro H1 locs1 hV1 hS1
        refine lv_iinc (v := nI (i + 4)) (lv' := [(3, .int (nI (i + 4))), (0, .ref b), (1, .ref (a 0)), (2, .ref (a 30))]) hx hb dL_law_848 hl (k := 3) rfl ((ii_p4 _).trans (nI_add i 4)) (by decide) rfl (fun ls hl => ?_)
        refine lv_goto (tgt := 18) hx hb dL_law_851 (by decide) ?_
        exact ih (i + 4) (by omega) (by omega) H1 locs1 hV1 hS1 ls (lv_sub hl [1, 2, 3, 0] rfl)
      exact Exists.elim hV (fun x_traced hV => Exists.elim hV (fun house_pans hV => Exists.elim hV (fun house_least hV => Exists.elim hV (fun house_shelf hV => Exists.elim hV (fun house_years hV => Exists.elim hV (fun house_spoons hV => Exists.elim hV (fun house_shrinks hV => Exists.elim hV (fun house_sorts hV => Exists.elim hV (fun house_byAge hV => Exists.elim hV (fun text_length hV => Exists.elim hV (fun text_leastTold hV => Exists.elim hV (fun text_shelfTold hV => Exists.elim hV (fun text_place hV => Exists.elim hV (fun text_token hV => Exists.elim hV (fun text_start hV => Exists.elim hV (fun text_number hV => Exists.elim hV (fun text_letters hV => Exists.elim hV (fun draft_pans hV => Exists.elim hV (fun draft_least hV => Exists.elim hV (fun draft_shelf hV => Exists.elim hV (fun draft_years hV => Exists.elim hV (fun draft_spoons hV => Exists.elim hV (fun draft_shrinks hV => Exists.elim hV (fun draft_sorts hV => Exists.elim hV (fun draft_byAge hV => Exists.elim hV (fun rain_springs hV => Exists.elim hV (fun rain_lost hV => Exists.elim hV (fun rain_spoons hV => Exists.elim hV (fun hist_known hV => Exists.elim hV (fun hist_next hV => Exists.elim hV (fun rows_springs hV => Exists.elim hV (fun rows_lost hV => Exists.elim hV (fun rows_sp hV => Exists.elim hV (fun imgs_springs hV => Exists.elim hV (fun imgs_lost hV => Exists.elim hV (fun imgs_sp hV => Exists.elim hV (fun kept hV => Exists.elim hV (fun told_size hV => Exists.elim hV (fun told_springs hV => Exists.elim hV (fun told_pans hV => Exists.elim hV (fun told_spoons hV => Exists.elim hV (fun sets_size hV => Exists.elim hV (fun sets_shelf hV => Exists.elim hV (fun sets_hail hV => Exists.elim hV (fun sets_filled hV => Exists.elim hV (fun sets_weights hV => Exists.elim hV (fun sets_fewest hV => Exists.elim hV (fun frost_upper hV => Exists.elim hV (fun frost_lower hV => Exists.elim hV (fun frost_cases hV => Exists.elim hV (fun m_trace hV => Exists.elim hV (fun m_typed hV => Exists.elim hV (fun m_known hV => Exists.elim hV (fun m_many hV => Exists.elim hV (fun m_at hV => Exists.elim hV (fun m_sort hV => Exists.elim hV (fun m_start hV => Exists.elim hV (fun m_value hV => Exists.elim hV (fun m_text hV => Exists.elim hV (fun m_told hV => Exists.elim hV (fun m_draft hV => Exists.elim hV (fun m_s hV => Exists.elim hV (fun m_past hV => Exists.elim hV (fun m_images hV => Exists.elim hV (fun m_kept hV => Exists.elim hV (fun m_notes hV => Exists.elim hV (fun m_noted hV => Exists.elim hV (fun m_held hV => Exists.elim hV (fun m_few hV => law_switch C0 hE hV.1 hV.2 hS v1 v2 v3 hl kk)))))))))))))))))))))))))))))))))))))))))))))))))))))))))))))))))))))
