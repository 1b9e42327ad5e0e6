/-! ===== the law's loop ===== -/
section LAW3
variable {p : Program} {l : Launch} {e : Env} {s : State} {m : MethodId} {below : List Frame} {meth : Method} {c : Code} {b L : Nat} {xs : Nat → Int32} {D : va_G} {cy : Nat → ClassId} {qc qm : Nat → Nat} {σc σm : St}
theorem l_out (X : LX p l s m meth c b L xs D cy qc qm) {lv : List (Nat × Value)} : LW p l e s m below meth c b D cy qc qm σc σm 1070 lv [] := by
  intro H locs ls h1 h2 h3 h4
  obtain ⟨hL, ⟨hx, hb, hr, hml, hown, hts, hX, hbl, hlocks, hgv⟩, hK, hDc, hDm, hsep, hN⟩ := X
  refine lv_iconst (v := 1) hx hb dL_law_1070 (by decide) ?_
  refine va_forget (fun q hq => h4.2.2 q hq) ?_
  exact lw_ret hx hb hr hlocks dL_law_1071
theorem l_head (X : LX p l s m meth c b L xs D cy qc qm) {i : Nat} (hi : i ≤ 1000) (kin : i + 7 ≤ L → LW p l e s m below meth c b D cy qc qm σc σm 27 (lvL qc qm b i) []) : LW p l e s m below meth c b D cy qc qm σc σm 18 (lvL qc qm b i) [] := by
  intro H locs ls h1 h2 h3 h4
  obtain ⟨hL, ⟨hx, hb, hr, hml, hown, hts, hX, hbl, hlocks, hgv⟩, hK, hDc, hDm, hsep, hN⟩ := id X
  refine lv_iload_n hx hb dL_law_18 rfl (lv_at h1 0 rfl) ?_
  refine lv_aload_n hx hb dL_law_19 rfl (lv_at h1 3 rfl) ?_
  refine va_slen hx hb hX hbl (Nat.not_le.mpr hbl) h4 dL_law_20 ?_
  refine lv_bipush (v := 7) hx hb dL_law_21 (by decide) ?_
  refine lv_isub hx hb dL_law_23 ?_
  have hc : (Int32.ofNat L - 7 < nI i) ↔ L < 7 + i := nd_x L 7 i (by omega)
  refine lv_icmp_gt (tgt := 1070) hx hb dL_law_24 (by decide) (fun q => ?_) (fun q => ?_)
  · exact l_out X H locs ls h1 h2 h3 h4
  · refine kin ?_ H locs ls h1 h2 h3 h4
    rcases Nat.lt_or_ge L (7 + i) with z | z
    · exact absurd (hc.mpr z) (by first | exact q | exact Int32.not_lt.mpr q)
    · omega
theorem l_next (X : LX p l s m meth c b L xs D cy qc qm) {i : Nat} (kk : LW p l e s m below meth c b D cy qc qm σc σm 18 (lvL qc qm b (i + 7)) []) : LW p l e s m below meth c b D cy qc qm σc σm 1064 (lvL qc qm b i) [] := by
  intro H locs ls h1 h2 h3 h4
  obtain ⟨hL, ⟨hx, hb, hr, hml, hown, hts, hX, hbl, hlocks, hgv⟩, hK, hDc, hDm, hsep, hN⟩ := id X
  refine lv_iinc (v := nI (i + 7)) (lv' := lvL qc qm b (i + 7)) hx hb dL_law_1064 h1 (k := 0) rfl (by rw [show Int32.ofInt 7 = nI 7 by decide, nI_add]) (by decide) rfl (fun ls h1 => ?_)
  refine lv_goto (tgt := 18) hx hb dL_law_1067 (by decide) ?_
  exact kk H locs ls h1 h2 h3 h4
theorem l_body (X : LX p l s m meth c b L xs D cy qc qm) {i : Nat} (hi : i + 7 ≤ L) (h : R σc σm) (kk : ∀ σc' σm' : St, R σc' σm' → LW p l e s m below meth c b D cy qc qm σc' σm' 1064 (lvL qc qm b i) []) : LW p l e s m below meth c b D cy qc qm σc σm 27 (lvL qc qm b i) [] := by
  intro H locs ls h1 h2 h3 h4
  obtain ⟨hL, ⟨hx, hb, hr, hml, hown, hts, hX, hbl, hlocks, hgv⟩, hK, hDc, hDm, hsep, hN⟩ := id X
  refine lv_aload_n hx hb dL_law_27 rfl (lv_at h1 3 rfl) ?_
  refine lv_iload_n hx hb dL_law_28 rfl (lv_at h1 0 rfl) ?_
  refine va_sld hx hb hX hbl (Nat.not_le.mpr hbl) h4 (vp_in_nI (show i < L by omega) (by omega)) dL_law_29 ?_
  refine lv_bipush (v := 63) hx hb dL_law_30 (by decide) ?_
  refine lv_iand hx hb dL_law_32 ?_
  refine lv_topi (fun x _ => ?_)
  by_cases h0 : x.toInt < 0 ∨ 33 < x.toInt
  · refine lv_tableOut (tgt := 1064) hx hb dL_law_33 h0 (by decide) ?_
    exact kk σc σm h H locs ls h1 h2 h3 h4
  · obtain ⟨k, hk, rfl⟩ : ∃ k : Nat, k ≤ 33 ∧ x = nI k := by
      obtain ⟨a, ha, e⟩ := nI_of (x := x) (by rw [Int32.lt_iff_toInt_lt, show (0 : Int32).toInt = 0 by decide]; omega)
      refine ⟨a, ?_, e⟩
      rw [e, nI_toInt ha] at h0
      omega
    have : k = 0 ∨ k = 1 ∨ k = 2 ∨ k = 3 ∨ k = 4 ∨ k = 5 ∨ k = 6 ∨ k = 7 ∨ k = 8 ∨ k = 9 ∨ k = 10 ∨ k = 11 ∨ k = 12 ∨ k = 13 ∨ k = 14 ∨ k = 15 ∨ k = 16 ∨ k = 17 ∨ k = 18 ∨ k = 19 ∨ k = 20 ∨ k = 21 ∨ k = 22 ∨ k = 23 ∨ k = 24 ∨ k = 25 ∨ k = 26 ∨ k = 27 ∨ k = 28 ∨ k = 29 ∨ k = 30 ∨ k = 31 ∨ k = 32 ∨ k = 33 := by omega
    rcases this with rfl | rfl | rfl | rfl | rfl | rfl | rfl | rfl | rfl | rfl | rfl | rfl | rfl | rfl | rfl | rfl | rfl | rfl | rfl | rfl | rfl | rfl | rfl | rfl | rfl | rfl | rfl | rfl | rfl | rfl | rfl | rfl | rfl | rfl
    · refine lv_tableIn (off := 151) (tgt := 184) hx hb dL_law_33 (by decide) (by decide) (by decide +kernel) (by decide) ?_
      exact k_feed X hi h kk H locs ls h1 h2 h3 h4
    · refine lv_tableIn (off := 174) (tgt := 207) hx hb dL_law_33 (by decide) (by decide) (by decide +kernel) (by decide) ?_
      exact k_mount X hi h kk H locs ls h1 h2 h3 h4
    · refine lv_tableIn (off := 187) (tgt := 220) hx hb dL_law_33 (by decide) (by decide) (by decide +kernel) (by decide) ?_
      exact k_fault X hi h kk H locs ls h1 h2 h3 h4
    · refine lv_tableIn (off := 200) (tgt := 233) hx hb dL_law_33 (by decide) (by decide) (by decide +kernel) (by decide) ?_
      exact k_told X hi h kk H locs ls h1 h2 h3 h4
    · refine lv_tableIn (off := 223) (tgt := 256) hx hb dL_law_33 (by decide) (by decide) (by decide +kernel) (by decide) ?_
      exact k_worm X hi h kk H locs ls h1 h2 h3 h4
    · refine lv_tableIn (off := 246) (tgt := 279) hx hb dL_law_33 (by decide) (by decide) (by decide +kernel) (by decide) ?_
      exact k_star X hi h kk H locs ls h1 h2 h3 h4
    · refine lv_tableIn (off := 279) (tgt := 312) hx hb dL_law_33 (by decide) (by decide) (by decide +kernel) (by decide) ?_
      exact k_minute X hi h kk H locs ls h1 h2 h3 h4
    · refine lv_tableIn (off := 302) (tgt := 335) hx hb dL_law_33 (by decide) (by decide) (by decide +kernel) (by decide) ?_
      exact k_press X hi h kk H locs ls h1 h2 h3 h4
    · refine lv_tableIn (off := 335) (tgt := 368) hx hb dL_law_33 (by decide) (by decide) (by decide +kernel) (by decide) ?_
      exact k_rule X hi h kk H locs ls h1 h2 h3 h4
    · refine lv_tableIn (off := 378) (tgt := 411) hx hb dL_law_33 (by decide) (by decide) (by decide +kernel) (by decide) ?_
      exact k_shut X hi h kk H locs ls h1 h2 h3 h4
    · refine lv_tableIn (off := 417) (tgt := 450) hx hb dL_law_33 (by decide) (by decide) (by decide +kernel) (by decide) ?_
      exact k_plate X hi h kk H locs ls h1 h2 h3 h4
    · refine lv_tableIn (off := 430) (tgt := 463) hx hb dL_law_33 (by decide) (by decide) (by decide +kernel) (by decide) ?_
      exact k_drift X hi h kk H locs ls h1 h2 h3 h4
    · refine lv_tableIn (off := 453) (tgt := 486) hx hb dL_law_33 (by decide) (by decide) (by decide +kernel) (by decide) ?_
      exact k_undo X hi h kk H locs ls h1 h2 h3 h4
    · refine lv_tableIn (off := 466) (tgt := 499) hx hb dL_law_33 (by decide) (by decide) (by decide +kernel) (by decide) ?_
      exact k_where X hi h kk H locs ls h1 h2 h3 h4
    · refine lv_tableIn (off := 499) (tgt := 532) hx hb dL_law_33 (by decide) (by decide) (by decide +kernel) (by decide) ?_
      exact k_lostWhen X hi h kk H locs ls h1 h2 h3 h4
    · refine lv_tableIn (off := 512) (tgt := 545) hx hb dL_law_33 (by decide) (by decide) (by decide +kernel) (by decide) ?_
      exact k_stretch X hi h kk H locs ls h1 h2 h3 h4
    · refine lv_tableIn (off := 535) (tgt := 568) hx hb dL_law_33 (by decide) (by decide) (by decide +kernel) (by decide) ?_
      exact k_bestRule X hi h kk H locs ls h1 h2 h3 h4
    · refine lv_tableIn (off := 568) (tgt := 601) hx hb dL_law_33 (by decide) (by decide) (by decide +kernel) (by decide) ?_
      exact k_nodded X hi h kk H locs ls h1 h2 h3 h4
    · refine lv_tableIn (off := 643) (tgt := 676) hx hb dL_law_33 (by decide) (by decide) (by decide +kernel) (by decide) ?_
      exact k_guide X hi h kk H locs ls h1 h2 h3 h4
    · refine lv_tableIn (off := 666) (tgt := 699) hx hb dL_law_33 (by decide) (by decide) (by decide +kernel) (by decide) ?_
      exact k_turns X hi h kk H locs ls h1 h2 h3 h4
    · refine lv_tableIn (off := 699) (tgt := 732) hx hb dL_law_33 (by decide) (by decide) (by decide +kernel) (by decide) ?_
      exact k_stop X hi h kk H locs ls h1 h2 h3 h4
    · refine lv_tableIn (off := 722) (tgt := 755) hx hb dL_law_33 (by decide) (by decide) (by decide +kernel) (by decide) ?_
      exact k_nods X hi h kk H locs ls h1 h2 h3 h4
    · refine lv_tableIn (off := 755) (tgt := 788) hx hb dL_law_33 (by decide) (by decide) (by decide +kernel) (by decide) ?_
      exact k_see X hi h kk H locs ls h1 h2 h3 h4
    · refine lv_tableIn (off := 788) (tgt := 821) hx hb dL_law_33 (by decide) (by decide) (by decide +kernel) (by decide) ?_
      exact k_fits X hi h kk H locs ls h1 h2 h3 h4
    · refine lv_tableIn (off := 821) (tgt := 854) hx hb dL_law_33 (by decide) (by decide) (by decide +kernel) (by decide) ?_
      exact k_periods X hi h kk H locs ls h1 h2 h3 h4
    · refine lv_tableIn (off := 834) (tgt := 867) hx hb dL_law_33 (by decide) (by decide) (by decide +kernel) (by decide) ?_
      exact k_look X hi h kk H locs ls h1 h2 h3 h4
    · refine lv_tableIn (off := 847) (tgt := 880) hx hb dL_law_33 (by decide) (by decide) (by decide +kernel) (by decide) ?_
      exact k_tail X hi h kk H locs ls h1 h2 h3 h4
    · refine lv_tableIn (off := 890) (tgt := 923) hx hb dL_law_33 (by decide) (by decide) (by decide +kernel) (by decide) ?_
      exact k_axes X hi h kk H locs ls h1 h2 h3 h4
    · refine lv_tableIn (off := 903) (tgt := 936) hx hb dL_law_33 (by decide) (by decide) (by decide +kernel) (by decide) ?_
      exact k_write X hi h kk H locs ls h1 h2 h3 h4
    · refine lv_tableIn (off := 936) (tgt := 969) hx hb dL_law_33 (by decide) (by decide) (by decide +kernel) (by decide) ?_
      exact k_tear X hi h kk H locs ls h1 h2 h3 h4
    · refine lv_tableIn (off := 949) (tgt := 982) hx hb dL_law_33 (by decide) (by decide) (by decide +kernel) (by decide) ?_
      exact k_judge X hi h kk H locs ls h1 h2 h3 h4
    · refine lv_tableIn (off := 962) (tgt := 995) hx hb dL_law_33 (by decide) (by decide) (by decide +kernel) (by decide) ?_
      exact k_seed X hi h kk H locs ls h1 h2 h3 h4
    · refine lv_tableIn (off := 985) (tgt := 1018) hx hb dL_law_33 (by decide) (by decide) (by decide +kernel) (by decide) ?_
      exact k_keep X hi h kk H locs ls h1 h2 h3 h4
    · refine lv_tableIn (off := 1008) (tgt := 1041) hx hb dL_law_33 (by decide) (by decide) (by decide +kernel) (by decide) ?_
      exact k_goBack X hi h kk H locs ls h1 h2 h3 h4
theorem law_loop (X : LX p l s m meth c b L xs D cy qc qm) : ∀ (n i : Nat) (σc σm : St), L + 1 ≤ i + n → i ≤ 900 → R σc σm → LW p l e s m below meth c b D cy qc qm σc σm 18 (lvL qc qm b i) [] := by
  intro n
  induction n with
  | zero =>
    intro i σc σm h1 h2 h
    exact l_head X (by omega) (fun q => absurd q (by omega))
  | succ n ih =>
    intro i σc σm h1 h2 h
    have hL := X.1
    exact l_head X (by omega) (fun q => l_body X q h (fun σc' σm' h' => l_next X (ih (i + 7) σc' σm' (by omega) (by omega) h')))
end LAW3
