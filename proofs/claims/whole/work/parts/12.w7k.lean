abbrev rmX7_keep : Room := { frames := 1, cells := 0, slots := 0, locals := 22 }
theorem hiX7_keep_4 : ∀ w ∈ wsX40, w ∈ wsX7_keep := fun w h => (goodIn_r (big := wsX7_keep) wsX40 [25, 26, 27, 28] rfl (by decide +kernel) w h).1
theorem hiX7_keep_7 : ∀ w ∈ wsX70, w ∈ wsX7_keep := fun w h => (goodIn_r (big := wsX7_keep) wsX70 [15, 16, 17, 18, 19, 20, 21, 22, 23, 24] rfl (by decide +kernel) w h).1
theorem cw_X7_keep_X7_isWithin_72 {s : State} {args : Array Value} (hts : ∀ x ∈ wsX7_keep, x.before args s = true) : CallB rmX7_keep s args RX7 72 yX7_isWithin cX7_isWithin 3 (some .boolean) wsX7_isWithin rmX7_isWithin 0 0 3 ∧ (Cond.static yX7_isWithin).before args s = true := va_cwS 3 hts gX7_keep_X7_isWithin rfl rfl rfl (by decide +kernel) ⟨Nat.le_of_ble_eq_true rfl, Nat.le_of_ble_eq_true rfl⟩
theorem cw_X7_keep_X4_become_262 {s : State} {args : Array Value} {D : va_G} {cI cZ cR : ClassId} (hE : EV D cI cZ cR s) (hts : ∀ x ∈ wsX7_keep, x.before args s = true) : va_CN rmX7_keep s args RX7 262 yX4_become "RainShelves" cX4_become 3 none wsX4_become rmX4_become 0 0 1 ∧ (Cond.instanceMethod yX4_become).before args s = true ∧ (Cond.selects RX4 yX4_become yX4_become).before args s = true := ⟨va_cnB 1 hts gX7_keep_X4_become_n262 rfl rfl rfl (hE.nm 40 rfl) (hts (.initialized RX4) (List.mem_of_getElem? (i := 9) rfl)) (by decide +kernel) ⟨Nat.le_of_ble_eq_true rfl, Nat.le_of_ble_eq_true rfl⟩, hts (.instanceMethod yX4_become) (List.mem_of_getElem? (i := 8) rfl), hts (.selects RX4 yX4_become yX4_become) (List.mem_of_getElem? (i := 10) rfl)⟩
set_option maxRecDepth 100000 in
set_option maxHeartbeats 4000000 in
theorem c_X7_keep (l : Launch) (D : va_G) (cI cZ cR : ClassId) (a_x : Nat) (a_img_arr : Nat) (a_house : Nat) (a_imgs : Nat → Nat) (a_imgs_sp : Nat → Nat) (a_rain : Nat) (a_rain_spoons : Nat) (a_kept : Nat) (a_text : Nat) (a_hist : Nat) (a_told : Nat) (a_sets : Nat) (a_frost : Nat) (x_traced : Int64) (imgs_springs : Nat → Int32) (imgs_lost : Nat → Int32) (imgs_sp : Nat → Nat → Int32) (rain_springs : Int32) (rain_lost : Int32) (rain_spoons : Nat → Int32) (kept : Nat → Int32) (v1 : Int32) (out : Int32 × (Nat → Int32) × (Nat → Int32) × (Nat → Nat → Int32) × (Nat → Int32)) (hf : f_X7_keep imgs_springs imgs_lost imgs_sp rain_springs rain_lost rain_spoons kept v1 = some out) : Ci l yX7_keep wsX7_keep rmX7_keep D cI cZ cR [.ref a_x, .int v1] [(a_x, .inr (7, [.ref a_house, .ref a_text, .ref a_rain, .ref a_hist, .ref a_img_arr, .ref a_kept, .ref a_told, .ref a_sets, .ref a_frost, .long x_traced])), (a_img_arr, .inl (cR, 2, .inr (.inr (.inr (.inr (fun j => some (a_imgs j))))))), (a_imgs 0, .inr (4, [.ref a_house, .ref (a_imgs_sp 0), .int (imgs_springs 0), .int (imgs_lost 0)])), (a_imgs_sp 0, .inl (cI, 49, .inl (imgs_sp 0))), (a_imgs 1, .inr (4, [.ref a_house, .ref (a_imgs_sp 1), .int (imgs_springs 1), .int (imgs_lost 1)])), (a_imgs_sp 1, .inl (cI, 49, .inl (imgs_sp 1))), (a_rain, .inr (4, [.ref a_house, .ref a_rain_spoons, .int rain_springs, .int rain_lost])), (a_rain_spoons, .inl (cI, 49, .inl rain_spoons)), (a_kept, .inl (cZ, 2, .inl kept))] out.1 [(a_x, .inr (7, [.ref a_house, .ref a_text, .ref a_rain, .ref a_hist, .ref a_img_arr, .ref a_kept, .ref a_told, .ref a_sets, .ref a_frost, .long x_traced])), (a_img_arr, .inl (cR, 2, .inr (.inr (.inr (.inr (fun j => some (a_imgs j))))))), (a_imgs 0, .inr (4, [.ref a_house, .ref (a_imgs_sp 0), .int (out.2.1 0), .int (out.2.2.1 0)])), (a_imgs_sp 0, .inl (cI, 49, .inl (out.2.2.2.1 0))), (a_imgs 1, .inr (4, [.ref a_house, .ref (a_imgs_sp 1), .int (out.2.1 1), .int (out.2.2.1 1)])), (a_imgs_sp 1, .inl (cI, 49, .inl (out.2.2.2.1 1))), (a_rain, .inr (4, [.ref a_house, .ref a_rain_spoons, .int rain_springs, .int rain_lost])), (a_rain_spoons, .inl (cI, 49, .inl rain_spoons)), (a_kept, .inl (cZ, 2, .inl out.2.2.2.2))] := by
  refine ent_i (cc := cX7_keep) (maxL := 2) .int (by decide) rfl (Nat.le_of_ble_eq_true rfl) ?_
  intro p e s m below meth c A Q hx hb hml hown hts hE hA hP hD hS hret ls hl
  have hown : s.vm.findClass RX7 = some m.cls := hown
  have hl : lv_has ls 2 [(0, .ref a_x), (1, .int v1)] := hl
  have fL28 := hts (.fieldLink RX7 28 "RainShelves" "rain" "LRainShelves$Rain;") (List.mem_of_getElem? (i := 2) rfl)
  have fL39 := hts (.fieldLink RX7 39 "RainShelves" "images" "[LRainShelves$Rain;") (List.mem_of_getElem? (i := 1) rfl)
  have fL43 := hts (.fieldLink RX7 43 "RainShelves" "kept" "[Z") (List.mem_of_getElem? (i := 3) rfl)
  have fL133 : (Cond.fieldLinkNest RX7 133 "RainShelves$Rain" "springs" "I" "RainShelves").before ([.ref a_x, .int v1] : List Value).toArray s = true := hE.nf 19 rfl
  unfold f_X7_keep at hf
  refine lv_iload_n hx hb dX7_keep_0 rfl (lv_at hl 1 rfl) ?_
  refine lv_iconst (v := 0) hx hb dX7_keep_1 (by decide) ?_
  refine lv_iconst (v := 1) hx hb dX7_keep_2 (by decide) ?_
  obtain ⟨u1, hu1, hf⟩ := bd_some hf
  refine cl_iS (As := [.int v1, .int 0, .int 1]) (rest := []) ⟨hx, hb, hml, hown, hts⟩ (c_X7_isWithin l D cI cZ cR   v1 0 1 u1 hu1) (cw_X7_keep_X7_isWithin_72 hts) hE hP hD hS hA rfl hl.1 rfl (Nat.le_of_ble_eq_true rfl) dX7_keep_3 ⟨Nat.zero_le _, Nat.zero_le _⟩ (fun H locs hP hS => ?_)
  refine lv_if_ne (tgt := 11) hx hb dX7_keep_6 (by decide) (fun hc1 => ?_) (fun hc1 => ?_)
  · have hf := if_f hf hc1
    refine lv_aload_n hx hb dX7_keep_11 rfl (lv_at hl 0 rfl) ?_
    refine va_get (D := D) (ci := 7) (v := .ref a_img_arr) (C := RX7) (T := TX7) (N := 10) hx hb hts hiX7_keep_7 hown hE.1 hP 0 rfl rfl 4 (by decide) fL39 (fun _ h9 => h9) rfl dX7_keep_12 ?_
    refine lv_iload_n hx hb dX7_keep_15 rfl (lv_at hl 1 rfl) ?_
    obtain ⟨hc2, hf⟩ := ck_some hf
    rcases ix_cases2 hc2 with hj | hj
    · rw [hj] at hf
      refine va_aldq hx hb hE.1 hP 1 2 rfl rfl (ix_in hc2) dX7_keep_16 ?_
      refine W.eq (g2 := F0 m 17 ls [.ref (a_imgs 0)]) (by rw [hj]; rfl) ?_
      refine lv_aload_n hx hb dX7_keep_17 rfl (lv_at hl 0 rfl) ?_
      refine va_get (D := D) (ci := 7) (v := .ref a_rain) (C := RX7) (T := TX7) (N := 10) hx hb hts hiX7_keep_7 hown hE.1 hP 0 rfl rfl 2 (by decide) fL28 (fun _ h9 => h9) rfl dX7_keep_18 ?_
      obtain ⟨u3, hu3, hf⟩ := bd_some hf
      refine cl_vN (As := [.ref a_rain]) (rest := []) ⟨hx, hb, hml, hown, hts⟩ (c_X4_become l D cI cZ cR (a_imgs 0) a_rain a_rain_spoons (a_imgs_sp 0) a_house a_house rain_springs rain_lost (imgs_springs 0) (imgs_lost 0) rain_spoons (imgs_sp 0)  u3 hu3) (cw_X7_keep_X4_become_262 hE hts) hE hP hD hS hA [6, 2, 7, 3] rfl rfl [a_rain, (a_imgs 0), a_rain_spoons, (a_imgs_sp 0)] rfl rfl 2 4 rfl rfl rfl hl.1 rfl (Nat.le_of_ble_eq_true rfl) dX7_keep_21 ⟨Nat.zero_le _, Nat.zero_le _⟩ (fun H locs hP hD hS => ?_)
      have hPD : PD D A [(a_x, .inr (7, [.ref a_house, .ref a_text, .ref a_rain, .ref a_hist, .ref a_img_arr, .ref a_kept, .ref a_told, .ref a_sets, .ref a_frost, .long x_traced])), (a_img_arr, .inl (cR, 2, .inr (.inr (.inr (.inr (fun j => some (a_imgs j))))))), (a_imgs 0, .inr (4, [.ref a_house, .ref (a_imgs_sp 0), .int u3.1, .int u3.2.1])), (a_imgs_sp 0, .inl (cI, 49, .inl u3.2.2)), (a_imgs 1, .inr (4, [.ref a_house, .ref (a_imgs_sp 1), .int (imgs_springs 1), .int (imgs_lost 1)])), (a_imgs_sp 1, .inl (cI, 49, .inl (imgs_sp 1))), (a_rain, .inr (4, [.ref a_house, .ref a_rain_spoons, .int rain_springs, .int rain_lost])), (a_rain_spoons, .inl (cI, 49, .inl rain_spoons)), (a_kept, .inl (cZ, 2, .inl kept))] H := ⟨hP, hD⟩
      obtain ⟨hP, hD⟩ := hPD
      refine lv_aload_n hx hb dX7_keep_24 rfl (lv_at hl 0 rfl) ?_
      refine va_get (D := D) (ci := 7) (v := .ref a_kept) (C := RX7) (T := TX7) (N := 10) hx hb hts hiX7_keep_7 hown hE.1 hP 0 rfl rfl 5 (by decide) fL43 (fun _ h9 => h9) rfl dX7_keep_25 ?_
      refine lv_iload_n hx hb dX7_keep_28 rfl (lv_at hl 1 rfl) ?_
      refine lv_iconst (v := 1) hx hb dX7_keep_29 (by decide) ?_
      obtain ⟨hc4, hf⟩ := ck_some hf
      refine va_zast hx hb hE.1 hP hD hS 8 1 rfl rfl (ix_in hc4) dX7_keep_30 (fun H locs hP hD hS => ?_)
      rw [hj] at hP hD
      have hPD : PD D A [(a_x, .inr (7, [.ref a_house, .ref a_text, .ref a_rain, .ref a_hist, .ref a_img_arr, .ref a_kept, .ref a_told, .ref a_sets, .ref a_frost, .long x_traced])), (a_img_arr, .inl (cR, 2, .inr (.inr (.inr (.inr (fun j => some (a_imgs j))))))), (a_imgs 0, .inr (4, [.ref a_house, .ref (a_imgs_sp 0), .int u3.1, .int u3.2.1])), (a_imgs_sp 0, .inl (cI, 49, .inl u3.2.2)), (a_imgs 1, .inr (4, [.ref a_house, .ref (a_imgs_sp 1), .int (imgs_springs 1), .int (imgs_lost 1)])), (a_imgs_sp 1, .inl (cI, 49, .inl (imgs_sp 1))), (a_rain, .inr (4, [.ref a_house, .ref a_rain_spoons, .int rain_springs, .int rain_lost])), (a_rain_spoons, .inl (cI, 49, .inl rain_spoons)), (a_kept, .inl (cZ, 2, .inl (upd kept 0 1)))] H := ⟨hP, hD⟩
      obtain ⟨hP, hD⟩ := hPD
      refine lv_aload_n hx hb dX7_keep_31 rfl (lv_at hl 0 rfl) ?_
      refine va_get (D := D) (ci := 7) (v := .ref a_rain) (C := RX7) (T := TX7) (N := 10) hx hb hts hiX7_keep_7 hown hE.1 hP 0 rfl rfl 2 (by decide) fL28 (fun _ h9 => h9) rfl dX7_keep_32 ?_
      refine va_getN (D := D) (ci := 4) (v := .int rain_springs) (C := RX4) (T := TX4) (N := 4) hx hb hts hiX7_keep_4 hown hE.1 hP 6 rfl rfl 2 (by decide) fL133 (fun _ h9 => h9) rfl dX7_keep_35 ?_
      have he := Option.some.inj hf
      subst he
      exact hret _ _ _ _ dX7_keep_38 rfl hP hD hS
    · rw [hj] at hf
      refine va_aldq hx hb hE.1 hP 1 2 rfl rfl (ix_in hc2) dX7_keep_16 ?_
      refine W.eq (g2 := F0 m 17 ls [.ref (a_imgs 1)]) (by rw [hj]; rfl) ?_
      refine lv_aload_n hx hb dX7_keep_17 rfl (lv_at hl 0 rfl) ?_
      refine va_get (D := D) (ci := 7) (v := .ref a_rain) (C := RX7) (T := TX7) (N := 10) hx hb hts hiX7_keep_7 hown hE.1 hP 0 rfl rfl 2 (by decide) fL28 (fun _ h9 => h9) rfl dX7_keep_18 ?_
      obtain ⟨u4, hu4, hf⟩ := bd_some hf
      refine cl_vN (As := [.ref a_rain]) (rest := []) ⟨hx, hb, hml, hown, hts⟩ (c_X4_become l D cI cZ cR (a_imgs 1) a_rain a_rain_spoons (a_imgs_sp 1) a_house a_house rain_springs rain_lost (imgs_springs 1) (imgs_lost 1) rain_spoons (imgs_sp 1)  u4 hu4) (cw_X7_keep_X4_become_262 hE hts) hE hP hD hS hA [6, 4, 7, 5] rfl rfl [a_rain, (a_imgs 1), a_rain_spoons, (a_imgs_sp 1)] rfl rfl 4 4 rfl rfl rfl hl.1 rfl (Nat.le_of_ble_eq_true rfl) dX7_keep_21 ⟨Nat.zero_le _, Nat.zero_le _⟩ (fun H locs hP hD hS => ?_)
      have hPD : PD D A [(a_x, .inr (7, [.ref a_house, .ref a_text, .ref a_rain, .ref a_hist, .ref a_img_arr, .ref a_kept, .ref a_told, .ref a_sets, .ref a_frost, .long x_traced])), (a_img_arr, .inl (cR, 2, .inr (.inr (.inr (.inr (fun j => some (a_imgs j))))))), (a_imgs 0, .inr (4, [.ref a_house, .ref (a_imgs_sp 0), .int (imgs_springs 0), .int (imgs_lost 0)])), (a_imgs_sp 0, .inl (cI, 49, .inl (imgs_sp 0))), (a_imgs 1, .inr (4, [.ref a_house, .ref (a_imgs_sp 1), .int u4.1, .int u4.2.1])), (a_imgs_sp 1, .inl (cI, 49, .inl u4.2.2)), (a_rain, .inr (4, [.ref a_house, .ref a_rain_spoons, .int rain_springs, .int rain_lost])), (a_rain_spoons, .inl (cI, 49, .inl rain_spoons)), (a_kept, .inl (cZ, 2, .inl kept))] H := ⟨hP, hD⟩
      obtain ⟨hP, hD⟩ := hPD
      refine lv_aload_n hx hb dX7_keep_24 rfl (lv_at hl 0 rfl) ?_
      refine va_get (D := D) (ci := 7) (v := .ref a_kept) (C := RX7) (T := TX7) (N := 10) hx hb hts hiX7_keep_7 hown hE.1 hP 0 rfl rfl 5 (by decide) fL43 (fun _ h9 => h9) rfl dX7_keep_25 ?_
      refine lv_iload_n hx hb dX7_keep_28 rfl (lv_at hl 1 rfl) ?_
      refine lv_iconst (v := 1) hx hb dX7_keep_29 (by decide) ?_
      obtain ⟨hc5, hf⟩ := ck_some hf
      refine va_zast hx hb hE.1 hP hD hS 8 1 rfl rfl (ix_in hc5) dX7_keep_30 (fun H locs hP hD hS => ?_)
      rw [hj] at hP hD
      have hPD : PD D A [(a_x, .inr (7, [.ref a_house, .ref a_text, .ref a_rain, .ref a_hist, .ref a_img_arr, .ref a_kept, .ref a_told, .ref a_sets, .ref a_frost, .long x_traced])), (a_img_arr, .inl (cR, 2, .inr (.inr (.inr (.inr (fun j => some (a_imgs j))))))), (a_imgs 0, .inr (4, [.ref a_house, .ref (a_imgs_sp 0), .int (imgs_springs 0), .int (imgs_lost 0)])), (a_imgs_sp 0, .inl (cI, 49, .inl (imgs_sp 0))), (a_imgs 1, .inr (4, [.ref a_house, .ref (a_imgs_sp 1), .int u4.1, .int u4.2.1])), (a_imgs_sp 1, .inl (cI, 49, .inl u4.2.2)), (a_rain, .inr (4, [.ref a_house, .ref a_rain_spoons, .int rain_springs, .int rain_lost])), (a_rain_spoons, .inl (cI, 49, .inl rain_spoons)), (a_kept, .inl (cZ, 2, .inl (upd kept 1 1)))] H := ⟨hP, hD⟩
      obtain ⟨hP, hD⟩ := hPD
      refine lv_aload_n hx hb dX7_keep_31 rfl (lv_at hl 0 rfl) ?_
      refine va_get (D := D) (ci := 7) (v := .ref a_rain) (C := RX7) (T := TX7) (N := 10) hx hb hts hiX7_keep_7 hown hE.1 hP 0 rfl rfl 2 (by decide) fL28 (fun _ h9 => h9) rfl dX7_keep_32 ?_
      refine va_getN (D := D) (ci := 4) (v := .int rain_springs) (C := RX4) (T := TX4) (N := 4) hx hb hts hiX7_keep_4 hown hE.1 hP 6 rfl rfl 2 (by decide) fL133 (fun _ h9 => h9) rfl dX7_keep_35 ?_
      have he := Option.some.inj hf
      subst he
      exact hret _ _ _ _ dX7_keep_38 rfl hP hD hS
  · have hf := if_t hf hc1
    refine lv_iconst (v := (-1)) hx hb dX7_keep_9 (by decide) ?_
    have he := Option.some.inj hf
    subst he
    exact hret _ _ _ _ dX7_keep_10 rfl hP hD hS
abbrev rmX7_back : Room := { frames := 1, cells := 0, slots := 0, locals := 22 }
theorem hiX7_back_1 : ∀ w ∈ wsX10, w ∈ wsX7_back := fun w h => (goodIn_r (big := wsX7_back) wsX10 [26, 27, 28] rfl (by decide +kernel) w h).1
theorem hiX7_back_4 : ∀ w ∈ wsX40, w ∈ wsX7_back := fun w h => (goodIn_r (big := wsX7_back) wsX40 [29, 30, 31, 32] rfl (by decide +kernel) w h).1
theorem hiX7_back_7 : ∀ w ∈ wsX70, w ∈ wsX7_back := fun w h => (goodIn_r (big := wsX7_back) wsX70 [16, 17, 18, 19, 20, 21, 22, 23, 24, 25] rfl (by decide +kernel) w h).1
theorem cw_X7_back_X7_isWithin_72 {s : State} {args : Array Value} (hts : ∀ x ∈ wsX7_back, x.before args s = true) : CallB rmX7_back s args RX7 72 yX7_isWithin cX7_isWithin 3 (some .boolean) wsX7_isWithin rmX7_isWithin 0 0 3 ∧ (Cond.static yX7_isWithin).before args s = true := va_cwS 3 hts gX7_back_X7_isWithin rfl rfl rfl (by decide +kernel) ⟨Nat.le_of_ble_eq_true rfl, Nat.le_of_ble_eq_true rfl⟩
theorem cw_X7_back_X4_become_262 {s : State} {args : Array Value} {D : va_G} {cI cZ cR : ClassId} (hE : EV D cI cZ cR s) (hts : ∀ x ∈ wsX7_back, x.before args s = true) : va_CN rmX7_back s args RX7 262 yX4_become "RainShelves" cX4_become 3 none wsX4_become rmX4_become 0 0 1 ∧ (Cond.instanceMethod yX4_become).before args s = true ∧ (Cond.selects RX4 yX4_become yX4_become).before args s = true := ⟨va_cnB 1 hts gX7_back_X4_become_n262 rfl rfl rfl (hE.nm 40 rfl) (hts (.initialized RX4) (List.mem_of_getElem? (i := 10) rfl)) (by decide +kernel) ⟨Nat.le_of_ble_eq_true rfl, Nat.le_of_ble_eq_true rfl⟩, hts (.instanceMethod yX4_become) (List.mem_of_getElem? (i := 9) rfl), hts (.selects RX4 yX4_become yX4_become) (List.mem_of_getElem? (i := 11) rfl)⟩
set_option maxRecDepth 100000 in
set_option maxHeartbeats 4000000 in
theorem c_X7_back (l : Launch) (D : va_G) (cI cZ cR : ClassId) (a_x : Nat) (a_kept : Nat) (a_img_arr : Nat) (a_house : Nat) (a_imgs : Nat → Nat) (a_imgs_sp : Nat → Nat) (a_rain : Nat) (a_rain_spoons : Nat) (a_hist : Nat) (a_text : Nat) (a_told : Nat) (a_sets : Nat) (a_frost : Nat) (a_hist_rows : Nat) (x_traced : Int64) (kept : Nat → Int32) (imgs_springs : Nat → Int32) (imgs_lost : Nat → Int32) (imgs_sp : Nat → Nat → Int32) (rain_springs : Int32) (rain_lost : Int32) (rain_spoons : Nat → Int32) (hist_known : Int32) (hist_next : Int32) (v1 : Int32) (out : Int32 × Int32 × Int32 × (Nat → Int32) × Int32) (hf : f_X7_back kept imgs_springs imgs_lost imgs_sp rain_springs rain_lost rain_spoons hist_known v1 = some out) : Ci l yX7_back wsX7_back rmX7_back D cI cZ cR [.ref a_x, .int v1] [(a_x, .inr (7, [.ref a_house, .ref a_text, .ref a_rain, .ref a_hist, .ref a_img_arr, .ref a_kept, .ref a_told, .ref a_sets, .ref a_frost, .long x_traced])), (a_kept, .inl (cZ, 2, .inl kept)), (a_img_arr, .inl (cR, 2, .inr (.inr (.inr (.inr (fun j => some (a_imgs j))))))), (a_imgs 0, .inr (4, [.ref a_house, .ref (a_imgs_sp 0), .int (imgs_springs 0), .int (imgs_lost 0)])), (a_imgs_sp 0, .inl (cI, 49, .inl (imgs_sp 0))), (a_imgs 1, .inr (4, [.ref a_house, .ref (a_imgs_sp 1), .int (imgs_springs 1), .int (imgs_lost 1)])), (a_imgs_sp 1, .inl (cI, 49, .inl (imgs_sp 1))), (a_rain, .inr (4, [.ref a_house, .ref a_rain_spoons, .int rain_springs, .int rain_lost])), (a_rain_spoons, .inl (cI, 49, .inl rain_spoons)), (a_hist, .inr (1, [.ref a_hist_rows, .int hist_known, .int hist_next]))] out.1 [(a_x, .inr (7, [.ref a_house, .ref a_text, .ref a_rain, .ref a_hist, .ref a_img_arr, .ref a_kept, .ref a_told, .ref a_sets, .ref a_frost, .long x_traced])), (a_kept, .inl (cZ, 2, .inl kept)), (a_img_arr, .inl (cR, 2, .inr (.inr (.inr (.inr (fun j => some (a_imgs j))))))), (a_imgs 0, .inr (4, [.ref a_house, .ref (a_imgs_sp 0), .int (imgs_springs 0), .int (imgs_lost 0)])), (a_imgs_sp 0, .inl (cI, 49, .inl (imgs_sp 0))), (a_imgs 1, .inr (4, [.ref a_house, .ref (a_imgs_sp 1), .int (imgs_springs 1), .int (imgs_lost 1)])), (a_imgs_sp 1, .inl (cI, 49, .inl (imgs_sp 1))), (a_rain, .inr (4, [.ref a_house, .ref a_rain_spoons, .int out.2.1, .int out.2.2.1])), (a_rain_spoons, .inl (cI, 49, .inl out.2.2.2.1)), (a_hist, .inr (1, [.ref a_hist_rows, .int out.2.2.2.2, .int hist_next]))] := by
  refine ent_i (cc := cX7_back) (maxL := 2) .int (by decide) rfl (Nat.le_of_ble_eq_true rfl) ?_
  intro p e s m below meth c A Q hx hb hml hown hts hE hA hP hD hS hret ls hl
  have hown : s.vm.findClass RX7 = some m.cls := hown
  have hl : lv_has ls 2 [(0, .ref a_x), (1, .int v1)] := hl
  have fL28 := hts (.fieldLink RX7 28 "RainShelves" "rain" "LRainShelves$Rain;") (List.mem_of_getElem? (i := 2) rfl)
  have fL35 := hts (.fieldLink RX7 35 "RainShelves" "history" "LRainShelves$History;") (List.mem_of_getElem? (i := 4) rfl)
  have fL39 := hts (.fieldLink RX7 39 "RainShelves" "images" "[LRainShelves$Rain;") (List.mem_of_getElem? (i := 3) rfl)
  have fL43 := hts (.fieldLink RX7 43 "RainShelves" "kept" "[Z") (List.mem_of_getElem? (i := 1) rfl)
  have fL97 : (Cond.fieldLinkNest RX7 97 "RainShelves$History" "known" "I" "RainShelves").before ([.ref a_x, .int v1] : List Value).toArray s = true := hE.nf 21 rfl
  have fL133 : (Cond.fieldLinkNest RX7 133 "RainShelves$Rain" "springs" "I" "RainShelves").before ([.ref a_x, .int v1] : List Value).toArray s = true := hE.nf 19 rfl
  unfold f_X7_back at hf
  refine lv_iload_n hx hb dX7_back_0 rfl (lv_at hl 1 rfl) ?_
  refine lv_iconst (v := 0) hx hb dX7_back_1 (by decide) ?_
  refine lv_iconst (v := 1) hx hb dX7_back_2 (by decide) ?_
  obtain ⟨u1, hu1, hf⟩ := bd_some hf
  refine cl_iS (As := [.int v1, .int 0, .int 1]) (rest := []) ⟨hx, hb, hml, hown, hts⟩ (c_X7_isWithin l D cI cZ cR   v1 0 1 u1 hu1) (cw_X7_back_X7_isWithin_72 hts) hE hP hD hS hA rfl hl.1 rfl (Nat.le_of_ble_eq_true rfl) dX7_back_3 ⟨Nat.zero_le _, Nat.zero_le _⟩ (fun H locs hP hS => ?_)
  refine lv_if_ne (tgt := 11) hx hb dX7_back_6 (by decide) (fun hc1 => ?_) (fun hc1 => ?_)
  · have hf := if_f hf hc1
    refine lv_aload_n hx hb dX7_back_11 rfl (lv_at hl 0 rfl) ?_
    refine va_get (D := D) (ci := 7) (v := .ref a_kept) (C := RX7) (T := TX7) (N := 10) hx hb hts hiX7_back_7 hown hE.1 hP 0 rfl rfl 5 (by decide) fL43 (fun _ h9 => h9) rfl dX7_back_12 ?_
    refine lv_iload_n hx hb dX7_back_15 rfl (lv_at hl 1 rfl) ?_
    obtain ⟨hc2, hf⟩ := ck_some hf
    refine va_zald hx hb hE.1 hP 1 1 rfl rfl (ix_in hc2) dX7_back_16 ?_
    refine lv_if_ne (tgt := 23) hx hb dX7_back_17 (by decide) (fun hc3 => ?_) (fun hc3 => ?_)
    · have hf := if_f hf hc3
      refine lv_aload_n hx hb dX7_back_23 rfl (lv_at hl 0 rfl) ?_
      refine va_get (D := D) (ci := 7) (v := .ref a_rain) (C := RX7) (T := TX7) (N := 10) hx hb hts hiX7_back_7 hown hE.1 hP 0 rfl rfl 2 (by decide) fL28 (fun _ h9 => h9) rfl dX7_back_24 ?_
      refine lv_aload_n hx hb dX7_back_27 rfl (lv_at hl 0 rfl) ?_
      refine va_get (D := D) (ci := 7) (v := .ref a_img_arr) (C := RX7) (T := TX7) (N := 10) hx hb hts hiX7_back_7 hown hE.1 hP 0 rfl rfl 4 (by decide) fL39 (fun _ h9 => h9) rfl dX7_back_28 ?_
      refine lv_iload_n hx hb dX7_back_31 rfl (lv_at hl 1 rfl) ?_
      obtain ⟨hc4, hf⟩ := ck_some hf
      rcases ix_cases2 hc4 with hj | hj
      · rw [hj] at hf
        refine va_aldq hx hb hE.1 hP 2 2 rfl rfl (ix_in hc4) dX7_back_32 ?_
        refine W.eq (g2 := F0 m 33 ls [.ref (a_imgs 0), .ref a_rain]) (by rw [hj]; rfl) ?_
        obtain ⟨u3, hu3, hf⟩ := bd_some hf
        refine cl_vN (As := [.ref (a_imgs 0)]) (rest := []) ⟨hx, hb, hml, hown, hts⟩ (c_X4_become l D cI cZ cR a_rain (a_imgs 0) (a_imgs_sp 0) a_rain_spoons a_house a_house (imgs_springs 0) (imgs_lost 0) rain_springs rain_lost (imgs_sp 0) rain_spoons  u3 hu3) (cw_X7_back_X4_become_262 hE hts) hE hP hD hS hA [3, 7, 4, 8] rfl rfl [(a_imgs 0), a_rain, (a_imgs_sp 0), a_rain_spoons] rfl rfl 7 4 rfl rfl rfl hl.1 rfl (Nat.le_of_ble_eq_true rfl) dX7_back_33 ⟨Nat.zero_le _, Nat.zero_le _⟩ (fun H locs hP hD hS => ?_)
        have hPD : PD D A [(a_x, .inr (7, [.ref a_house, .ref a_text, .ref a_rain, .ref a_hist, .ref a_img_arr, .ref a_kept, .ref a_told, .ref a_sets, .ref a_frost, .long x_traced])), (a_kept, .inl (cZ, 2, .inl kept)), (a_img_arr, .inl (cR, 2, .inr (.inr (.inr (.inr (fun j => some (a_imgs j))))))), (a_imgs 0, .inr (4, [.ref a_house, .ref (a_imgs_sp 0), .int (imgs_springs 0), .int (imgs_lost 0)])), (a_imgs_sp 0, .inl (cI, 49, .inl (imgs_sp 0))), (a_imgs 1, .inr (4, [.ref a_house, .ref (a_imgs_sp 1), .int (imgs_springs 1), .int (imgs_lost 1)])), (a_imgs_sp 1, .inl (cI, 49, .inl (imgs_sp 1))), (a_rain, .inr (4, [.ref a_house, .ref a_rain_spoons, .int u3.1, .int u3.2.1])), (a_rain_spoons, .inl (cI, 49, .inl u3.2.2)), (a_hist, .inr (1, [.ref a_hist_rows, .int hist_known, .int hist_next]))] H := ⟨hP, hD⟩
        obtain ⟨hP, hD⟩ := hPD
        refine lv_aload_n hx hb dX7_back_36 rfl (lv_at hl 0 rfl) ?_
        refine va_get (D := D) (ci := 7) (v := .ref a_hist) (C := RX7) (T := TX7) (N := 10) hx hb hts hiX7_back_7 hown hE.1 hP 0 rfl rfl 3 (by decide) fL35 (fun _ h9 => h9) rfl dX7_back_37 ?_
        refine lv_iconst (v := 0) hx hb dX7_back_40 (by decide) ?_
        refine va_putN (D := D) (ci := 1) (v := .int 0) (ty := .int) (C := RX1) (T := TX1) (N := 3) hx hb hts hiX7_back_1 tyX1 tyX1_ok nmX1 hown hE.1 hP hD hS 9 rfl rfl 1 (by decide) fL97 (fun _ h9 => h9) rfl (tyX1_ok 1 (by decide)) rfl rfl (Nat.le_of_ble_eq_true rfl) dX7_back_41 (fun H locs hP hD hS => ?_)
        have hPD : PD D A [(a_x, .inr (7, [.ref a_house, .ref a_text, .ref a_rain, .ref a_hist, .ref a_img_arr, .ref a_kept, .ref a_told, .ref a_sets, .ref a_frost, .long x_traced])), (a_kept, .inl (cZ, 2, .inl kept)), (a_img_arr, .inl (cR, 2, .inr (.inr (.inr (.inr (fun j => some (a_imgs j))))))), (a_imgs 0, .inr (4, [.ref a_house, .ref (a_imgs_sp 0), .int (imgs_springs 0), .int (imgs_lost 0)])), (a_imgs_sp 0, .inl (cI, 49, .inl (imgs_sp 0))), (a_imgs 1, .inr (4, [.ref a_house, .ref (a_imgs_sp 1), .int (imgs_springs 1), .int (imgs_lost 1)])), (a_imgs_sp 1, .inl (cI, 49, .inl (imgs_sp 1))), (a_rain, .inr (4, [.ref a_house, .ref a_rain_spoons, .int u3.1, .int u3.2.1])), (a_rain_spoons, .inl (cI, 49, .inl u3.2.2)), (a_hist, .inr (1, [.ref a_hist_rows, .int 0, .int hist_next]))] H := ⟨hP, hD⟩
        obtain ⟨hP, hD⟩ := hPD
        refine lv_aload_n hx hb dX7_back_44 rfl (lv_at hl 0 rfl) ?_
        refine va_get (D := D) (ci := 7) (v := .ref a_rain) (C := RX7) (T := TX7) (N := 10) hx hb hts hiX7_back_7 hown hE.1 hP 0 rfl rfl 2 (by decide) fL28 (fun _ h9 => h9) rfl dX7_back_45 ?_
        refine va_getN (D := D) (ci := 4) (v := .int u3.1) (C := RX4) (T := TX4) (N := 4) hx hb hts hiX7_back_4 hown hE.1 hP 7 rfl rfl 2 (by decide) fL133 (fun _ h9 => h9) rfl dX7_back_48 ?_
        have he := Option.some.inj hf
        subst he
        exact hret _ _ _ _ dX7_back_51 rfl hP hD hS
      · rw [hj] at hf
        refine va_aldq hx hb hE.1 hP 2 2 rfl rfl (ix_in hc4) dX7_back_32 ?_
        refine W.eq (g2 := F0 m 33 ls [.ref (a_imgs 1), .ref a_rain]) (by rw [hj]; rfl) ?_
        obtain ⟨u4, hu4, hf⟩ := bd_some hf
        refine cl_vN (As := [.ref (a_imgs 1)]) (rest := []) ⟨hx, hb, hml, hown, hts⟩ (c_X4_become l D cI cZ cR a_rain (a_imgs 1) (a_imgs_sp 1) a_rain_spoons a_house a_house (imgs_springs 1) (imgs_lost 1) rain_springs rain_lost (imgs_sp 1) rain_spoons  u4 hu4) (cw_X7_back_X4_become_262 hE hts) hE hP hD hS hA [5, 7, 6, 8] rfl rfl [(a_imgs 1), a_rain, (a_imgs_sp 1), a_rain_spoons] rfl rfl 7 4 rfl rfl rfl hl.1 rfl (Nat.le_of_ble_eq_true rfl) dX7_back_33 ⟨Nat.zero_le _, Nat.zero_le _⟩ (fun H locs hP hD hS => ?_)
        have hPD : PD D A [(a_x, .inr (7, [.ref a_house, .ref a_text, .ref a_rain, .ref a_hist, .ref a_img_arr, .ref a_kept, .ref a_told, .ref a_sets, .ref a_frost, .long x_traced])), (a_kept, .inl (cZ, 2, .inl kept)), (a_img_arr, .inl (cR, 2, .inr (.inr (.inr (.inr (fun j => some (a_imgs j))))))), (a_imgs 0, .inr (4, [.ref a_house, .ref (a_imgs_sp 0), .int (imgs_springs 0), .int (imgs_lost 0)])), (a_imgs_sp 0, .inl (cI, 49, .inl (imgs_sp 0))), (a_imgs 1, .inr (4, [.ref a_house, .ref (a_imgs_sp 1), .int (imgs_springs 1), .int (imgs_lost 1)])), (a_imgs_sp 1, .inl (cI, 49, .inl (imgs_sp 1))), (a_rain, .inr (4, [.ref a_house, .ref a_rain_spoons, .int u4.1, .int u4.2.1])), (a_rain_spoons, .inl (cI, 49, .inl u4.2.2)), (a_hist, .inr (1, [.ref a_hist_rows, .int hist_known, .int hist_next]))] H := ⟨hP, hD⟩
        obtain ⟨hP, hD⟩ := hPD
        refine lv_aload_n hx hb dX7_back_36 rfl (lv_at hl 0 rfl) ?_
        refine va_get (D := D) (ci := 7) (v := .ref a_hist) (C := RX7) (T := TX7) (N := 10) hx hb hts hiX7_back_7 hown hE.1 hP 0 rfl rfl 3 (by decide) fL35 (fun _ h9 => h9) rfl dX7_back_37 ?_
        refine lv_iconst (v := 0) hx hb dX7_back_40 (by decide) ?_
        refine va_putN (D := D) (ci := 1) (v := .int 0) (ty := .int) (C := RX1) (T := TX1) (N := 3) hx hb hts hiX7_back_1 tyX1 tyX1_ok nmX1 hown hE.1 hP hD hS 9 rfl rfl 1 (by decide) fL97 (fun _ h9 => h9) rfl (tyX1_ok 1 (by decide)) rfl rfl (Nat.le_of_ble_eq_true rfl) dX7_back_41 (fun H locs hP hD hS => ?_)
        have hPD : PD D A [(a_x, .inr (7, [.ref a_house, .ref a_text, .ref a_rain, .ref a_hist, .ref a_img_arr, .ref a_kept, .ref a_told, .ref a_sets, .ref a_frost, .long x_traced])), (a_kept, .inl (cZ, 2, .inl kept)), (a_img_arr, .inl (cR, 2, .inr (.inr (.inr (.inr (fun j => some (a_imgs j))))))), (a_imgs 0, .inr (4, [.ref a_house, .ref (a_imgs_sp 0), .int (imgs_springs 0), .int (imgs_lost 0)])), (a_imgs_sp 0, .inl (cI, 49, .inl (imgs_sp 0))), (a_imgs 1, .inr (4, [.ref a_house, .ref (a_imgs_sp 1), .int (imgs_springs 1), .int (imgs_lost 1)])), (a_imgs_sp 1, .inl (cI, 49, .inl (imgs_sp 1))), (a_rain, .inr (4, [.ref a_house, .ref a_rain_spoons, .int u4.1, .int u4.2.1])), (a_rain_spoons, .inl (cI, 49, .inl u4.2.2)), (a_hist, .inr (1, [.ref a_hist_rows, .int 0, .int hist_next]))] H := ⟨hP, hD⟩
        obtain ⟨hP, hD⟩ := hPD
        refine lv_aload_n hx hb dX7_back_44 rfl (lv_at hl 0 rfl) ?_
        refine va_get (D := D) (ci := 7) (v := .ref a_rain) (C := RX7) (T := TX7) (N := 10) hx hb hts hiX7_back_7 hown hE.1 hP 0 rfl rfl 2 (by decide) fL28 (fun _ h9 => h9) rfl dX7_back_45 ?_
        refine va_getN (D := D) (ci := 4) (v := .int u4.1) (C := RX4) (T := TX4) (N := 4) hx hb hts hiX7_back_4 hown hE.1 hP 7 rfl rfl 2 (by decide) fL133 (fun _ h9 => h9) rfl dX7_back_48 ?_
        have he := Option.some.inj hf
        subst he
        exact hret _ _ _ _ dX7_back_51 rfl hP hD hS
    · have hf := if_t hf hc3
      refine lv_bipush (v := (-2)) hx hb dX7_back_20 (by decide) ?_
      have he := Option.some.inj hf
      subst he
      exact hret _ _ _ _ dX7_back_22 rfl hP hD hS
  · have hf := if_t hf hc1
    refine lv_iconst (v := (-1)) hx hb dX7_back_9 (by decide) ?_
    have he := Option.some.inj hf
    subst he
    exact hret _ _ _ _ dX7_back_10 rfl hP hD hS
