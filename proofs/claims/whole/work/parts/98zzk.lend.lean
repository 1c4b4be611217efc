theorem lw_loop {g : gG} {d : Nat} {Q : mQ} {b x N : Nat} {xs : Nat → Int32} {aK aV : Nat → Nat} (hst : StrG g aK aV) (hXs : va_X b N xs (gs g) (gs g).heap) (hbs : b < (gs g).heap.size) (hN : N ≤ 3584) (kq : ∀ (T : mT) (n : Nat) (I : mI) (J : mJ) (F : mF), Q (some (.int 1)) T n I J F) : ∀ (t i : Nat) (A : Ab) (k : Nat) (T : mT) (n : Nat) (I : mI) (J : mJ) (F : mF), N < i + 7 * (t + 1) → i ≤ 4000 → LI x A k T n I J F → V g mL_law (d + 60) Q (3 * t) (420 * t + phi k) 18 [some (.ref b), some (.ref x), some (.ref (x + 90)), some (.int (nI i))] [] T n I J F := by
  have e7 : nI N - 7 = iI ((N : Int) - 7) := by rw [show (7 : Int32) = iI 7 from rfl, ← iI_nat, iI_sub]
  intro t
  induction t with
  | zero =>
    intro i A k T n I J F hi hi2 hLI
    refine V.iload_n (pc := 18) dL_law_18 rfl ?_
    refine V.aload_n (pc := 19) dL_law_19 rfl ?_
    refine V.slen hXs hbs (pc := 20) dL_law_20 ?_
    refine V.bipush (v := 7) (pc := 21) dL_law_21 (by decide) ?_
    refine V.isub (pc := 23) dL_law_23 ?_
    rw [e7]
    refine V.icmp_gt 1536 (pc := 24) dL_law_24 (by decide) (fun h24 => ?_) (fun h24 => absurd (by rw [lt32, iI_toInt (by omega) (by omega), nI_toInt (by omega)]; omega) h24)
    refine V.iconst (v := 1) (pc := 1536) dL_law_1536 (by decide) ?_
    exact V.zret (pc := 1537) dL_law_1537 rfl (by first | exact Or.inl rfl | exact Or.inr rfl | exact bi_or | assumption) (kq _ _ _ _ _)
  | succ t ih =>
    intro i A k T n I J F hi hi2 hLI
    refine V.room (bc := 3 * t + 3) (bs := 420 * t + 420 + phi k) (by omega) (by omega) ?_
    refine V.iload_n (pc := 18) dL_law_18 rfl ?_
    refine V.aload_n (pc := 19) dL_law_19 rfl ?_
    refine V.slen hXs hbs (pc := 20) dL_law_20 ?_
    refine V.bipush (v := 7) (pc := 21) dL_law_21 (by decide) ?_
    refine V.isub (pc := 23) dL_law_23 ?_
    rw [e7]
    refine V.icmp_gt 1536 (pc := 24) dL_law_24 (by decide) (fun h24 => ?_) (fun h24 => ?_)
    · skip
      refine V.iconst (v := 1) (pc := 1536) dL_law_1536 (by decide) ?_
      exact V.zret (pc := 1537) dL_law_1537 rfl (by first | exact Or.inl rfl | exact Or.inr rfl | exact bi_or | assumption) (kq _ _ _ _ _)
    · rw [lt32, iI_toInt (by omega) (by omega), nI_toInt (by omega)] at h24
      have hiN : i + 7 ≤ N := by omega
      have hk : ∀ (A' : Ab) (k' : Nat) (T' : mT) (n' : Nat) (I' : mI) (J' : mJ) (F' : mF), LI x A' k' T' n' I' J' F' → V g mL_law (d + 60) Q (3 * t) (420 * t + phi k') 1530 [some (.ref b), some (.ref x), some (.ref (x + 90)), some (.int (nI i))] [] T' n' I' J' F' := by
        intro A' k' T' n' I' J' F' hL2
        refine V.iinc (v := _ + (7)) (pc := 1530) dL_law_1530 (by decide) rfl rfl (st1_3 rfl) ?_
        refine V.goto 18 (pc := 1533) dL_law_1533 (by decide) ?_
        rw [show nI i + (7 : Int32) = nI (i + 7) from by rw [show (7 : Int32) = nI 7 from rfl, nI_add]]
        exact ih (i + 7) _ _ _ _ _ _ _ (by omega) (by omega) hL2
      refine V.aload_n (pc := 27) dL_law_27 rfl ?_
      refine V.iload_n (pc := 28) dL_law_28 rfl ?_
      refine V.sld (k := i) hXs hbs (pc := 29) dL_law_29 rfl (by omega) (by omega) ?_
      refine V.bipush (v := 63) (pc := 30) dL_law_30 (by decide) ?_
      refine V.iand (pc := 32) dL_law_32 ?_
      refine V.gen (fun y33 ey33 => ?_)
      by_cases c33_0 : y33 = 0
      · rw [c33_0] at ey33 ⊢
        refine V.tIn 212 (pc := 33) dL_law_33 (by decide) (by decide) (off := 179) (by decide) (by decide) ?_
        exact lc_hand hXs hbs hiN hN hLI hk
      by_cases c33_1 : y33 = 1
      · rw [c33_1] at ey33 ⊢
        refine V.tIn 235 (pc := 33) dL_law_33 (by decide) (by decide) (off := 202) (by decide) (by decide) ?_
        exact lc_put hXs hbs hiN hN hLI hk
      by_cases c33_2 : y33 = 2
      · rw [c33_2] at ey33 ⊢
        refine V.tIn 278 (pc := 33) dL_law_33 (by decide) (by decide) (off := 245) (by decide) (by decide) ?_
        exact lc_pair hXs hbs hiN hN hLI hk
      by_cases c33_3 : y33 = 3
      · rw [c33_3] at ey33 ⊢
        refine V.tIn 321 (pc := 33) dL_law_33 (by decide) (by decide) (off := 288) (by decide) (by decide) ?_
        exact lc_strip hXs hbs hiN hN hLI hk
      by_cases c33_4 : y33 = 4
      · rw [c33_4] at ey33 ⊢
        refine V.tIn 344 (pc := 33) dL_law_33 (by decide) (by decide) (off := 311) (by decide) (by decide) ?_
        exact lc_of hXs hbs hiN hN hLI hk
      by_cases c33_5 : y33 = 5
      · rw [c33_5] at ey33 ⊢
        refine V.tIn 377 (pc := 33) dL_law_33 (by decide) (by decide) (off := 344) (by decide) (by decide) ?_
        exact lc_wheel hXs hbs hiN hN hLI hk
      by_cases c33_6 : y33 = 6
      · rw [c33_6] at ey33 ⊢
        refine V.tIn 400 (pc := 33) dL_law_33 (by decide) (by decide) (off := 367) (by decide) (by decide) ?_
        exact lc_drop hXs hbs hiN hN hLI hk
      by_cases c33_7 : y33 = 7
      · rw [c33_7] at ey33 ⊢
        refine V.tIn 423 (pc := 33) dL_law_33 (by decide) (by decide) (off := 390) (by decide) (by decide) ?_
        exact lc_teeth hXs hbs hiN hN hLI hk
      by_cases c33_8 : y33 = 8
      · rw [c33_8] at ey33 ⊢
        refine V.tIn 446 (pc := 33) dL_law_33 (by decide) (by decide) (off := 413) (by decide) (by decide) ?_
        exact lc_terms hXs hbs hiN hN hLI hk
      by_cases c33_9 : y33 = 9
      · rw [c33_9] at ey33 ⊢
        refine V.tIn 479 (pc := 33) dL_law_33 (by decide) (by decide) (off := 446) (by decide) (by decide) ?_
        exact lc_feed hXs hbs hiN hN hLI hk
      by_cases c33_10 : y33 = 10
      · rw [c33_10] at ey33 ⊢
        refine V.tIn 542 (pc := 33) dL_law_33 (by decide) (by decide) (off := 509) (by decide) (by decide) ?_
        exact lc_end hXs hbs hiN hN hLI hk
      by_cases c33_11 : y33 = 11
      · rw [c33_11] at ey33 ⊢
        refine V.tIn 565 (pc := 33) dL_law_33 (by decide) (by decide) (off := 532) (by decide) (by decide) ?_
        exact lc_row hXs hbs hiN hN hLI hk
      by_cases c33_12 : y33 = 12
      · rw [c33_12] at ey33 ⊢
        refine V.tIn 578 (pc := 33) dL_law_33 (by decide) (by decide) (off := 545) (by decide) (by decide) ?_
        exact lc_bent hXs hbs hiN hN hLI hk
      by_cases c33_13 : y33 = 13
      · rw [c33_13] at ey33 ⊢
        refine V.tIn 591 (pc := 33) dL_law_33 (by decide) (by decide) (off := 558) (by decide) (by decide) ?_
        exact lc_law hst hXs hbs hiN hN hLI hk
      by_cases c33_14 : y33 = 14
      · rw [c33_14] at ey33 ⊢
        refine V.tIn 604 (pc := 33) dL_law_33 (by decide) (by decide) (off := 571) (by decide) (by decide) ?_
        exact lc_fault hXs hbs hiN hN hLI hk
      by_cases c33_15 : y33 = 15
      · rw [c33_15] at ey33 ⊢
        refine V.tIn 617 (pc := 33) dL_law_33 (by decide) (by decide) (off := 584) (by decide) (by decide) ?_
        exact lc_force hXs hbs hiN hN hLI hk
      by_cases c33_16 : y33 = 16
      · rw [c33_16] at ey33 ⊢
        refine V.tIn 640 (pc := 33) dL_law_33 (by decide) (by decide) (off := 607) (by decide) (by decide) ?_
        exact lc_rate hXs hbs hiN hN hLI hk
      by_cases c33_17 : y33 = 17
      · rw [c33_17] at ey33 ⊢
        refine V.tIn 674 (pc := 33) dL_law_33 (by decide) (by decide) (off := 641) (by decide) (by decide) ?_
        exact lc_shows hXs hbs hiN hN hLI hk
      by_cases c33_18 : y33 = 18
      · rw [c33_18] at ey33 ⊢
        refine V.tIn 717 (pc := 33) dL_law_33 (by decide) (by decide) (off := 684) (by decide) (by decide) ?_
        exact lc_should hXs hbs hiN hN hLI hk
      by_cases c33_19 : y33 = 19
      · rw [c33_19] at ey33 ⊢
        refine V.tIn 750 (pc := 33) dL_law_33 (by decide) (by decide) (off := 717) (by decide) (by decide) ?_
        exact lc_wrong hXs hbs hiN hN hLI hk
      by_cases c33_20 : y33 = 20
      · rw [c33_20] at ey33 ⊢
        refine V.tIn 803 (pc := 33) dL_law_33 (by decide) (by decide) (off := 770) (by decide) (by decide) ?_
        exact lc_off hXs hbs hiN hN hLI hk
      by_cases c33_21 : y33 = 21
      · rw [c33_21] at ey33 ⊢
        refine V.tIn 857 (pc := 33) dL_law_33 (by decide) (by decide) (off := 824) (by decide) (by decide) ?_
        exact lc_nearest hXs hbs hiN hN hLI hk
      by_cases c33_22 : y33 = 22
      · rw [c33_22] at ey33 ⊢
        refine V.tIn 900 (pc := 33) dL_law_33 (by decide) (by decide) (off := 867) (by decide) (by decide) ?_
        exact lc_near hXs hbs hiN hN hLI hk
      by_cases c33_23 : y33 = 23
      · rw [c33_23] at ey33 ⊢
        refine V.tIn 944 (pc := 33) dL_law_33 (by decide) (by decide) (off := 911) (by decide) (by decide) ?_
        exact lc_mount hXs hbs hiN hN hLI hk
      by_cases c33_24 : y33 = 24
      · rw [c33_24] at ey33 ⊢
        refine V.tIn 987 (pc := 33) dL_law_33 (by decide) (by decide) (off := 954) (by decide) (by decide) ?_
        exact lc_cam hXs hbs hiN hN hLI hk
      by_cases c33_25 : y33 = 25
      · rw [c33_25] at ey33 ⊢
        refine V.tIn 1020 (pc := 33) dL_law_33 (by decide) (by decide) (off := 987) (by decide) (by decide) ?_
        exact lc_sight hXs hbs hiN hN hLI hk
      by_cases c33_26 : y33 = 26
      · rw [c33_26] at ey33 ⊢
        refine V.tIn 1063 (pc := 33) dL_law_33 (by decide) (by decide) (off := 1030) (by decide) (by decide) ?_
        exact lc_forget hXs hbs hiN hN hLI hk
      by_cases c33_27 : y33 = 27
      · rw [c33_27] at ey33 ⊢
        refine V.tIn 1076 (pc := 33) dL_law_33 (by decide) (by decide) (off := 1043) (by decide) (by decide) ?_
        exact lc_inside hXs hbs hiN hN hLI hk
      by_cases c33_28 : y33 = 28
      · rw [c33_28] at ey33 ⊢
        refine V.tIn 1109 (pc := 33) dL_law_33 (by decide) (by decide) (off := 1076) (by decide) (by decide) ?_
        exact lc_gone hXs hbs hiN hN hLI hk
      by_cases c33_29 : y33 = 29
      · rw [c33_29] at ey33 ⊢
        refine V.tIn 1142 (pc := 33) dL_law_33 (by decide) (by decide) (off := 1109) (by decide) (by decide) ?_
        exact lc_together hXs hbs hiN hN hLI hk
      by_cases c33_30 : y33 = 30
      · rw [c33_30] at ey33 ⊢
        refine V.tIn 1205 (pc := 33) dL_law_33 (by decide) (by decide) (off := 1172) (by decide) (by decide) ?_
        exact lc_knob hXs hbs hiN hN hLI hk
      by_cases c33_31 : y33 = 31
      · rw [c33_31] at ey33 ⊢
        refine V.tIn 1218 (pc := 33) dL_law_33 (by decide) (by decide) (off := 1185) (by decide) (by decide) ?_
        exact lc_push hXs hbs hiN hN hLI hk
      by_cases c33_32 : y33 = 32
      · rw [c33_32] at ey33 ⊢
        refine V.tIn 1261 (pc := 33) dL_law_33 (by decide) (by decide) (off := 1228) (by decide) (by decide) ?_
        exact lc_set hXs hbs hiN hN hLI hk
      by_cases c33_33 : y33 = 33
      · rw [c33_33] at ey33 ⊢
        refine V.tIn 1336 (pc := 33) dL_law_33 (by decide) (by decide) (off := 1303) (by decide) (by decide) ?_
        exact lc_worn hXs hbs hiN hN hLI hk
      by_cases c33_34 : y33 = 34
      · rw [c33_34] at ey33 ⊢
        refine V.tIn 1359 (pc := 33) dL_law_33 (by decide) (by decide) (off := 1326) (by decide) (by decide) ?_
        exact lc_shared hXs hbs hiN hN hLI hk
      by_cases c33_35 : y33 = 35
      · rw [c33_35] at ey33 ⊢
        refine V.tIn 1372 (pc := 33) dL_law_33 (by decide) (by decide) (off := 1339) (by decide) (by decide) ?_
        exact lc_storm hXs hbs hiN hN hLI hk
      by_cases c33_36 : y33 = 36
      · rw [c33_36] at ey33 ⊢
        refine V.tIn 1415 (pc := 33) dL_law_33 (by decide) (by decide) (off := 1382) (by decide) (by decide) ?_
        exact lc_stormed hXs hbs hiN hN hLI hk
      by_cases c33_37 : y33 = 37
      · rw [c33_37] at ey33 ⊢
        refine V.tIn 1448 (pc := 33) dL_law_33 (by decide) (by decide) (off := 1415) (by decide) (by decide) ?_
        exact lc_image hXs hbs hiN hN hLI hk
      by_cases c33_38 : y33 = 38
      · rw [c33_38] at ey33 ⊢
        refine V.tIn 1471 (pc := 33) dL_law_33 (by decide) (by decide) (off := 1438) (by decide) (by decide) ?_
        exact lc_back hXs hbs hiN hN hLI hk
      by_cases c33_39 : y33 = 39
      · rw [c33_39] at ey33 ⊢
        refine V.tIn 1494 (pc := 33) dL_law_33 (by decide) (by decide) (off := 1461) (by decide) (by decide) ?_
        exact lc_count hXs hbs hiN hN hLI hk
      by_cases c33_40 : y33 = 40
      · rw [c33_40] at ey33 ⊢
        refine V.tIn 1517 (pc := 33) dL_law_33 (by decide) (by decide) (off := 1484) (by decide) (by decide) ?_
        exact lc_status hXs hbs hiN hN hLI hk
      have q0 : ¬ y33.toInt = 0 := fun e => c33_0 ((eq32 _ _).mpr (e.trans (by decide)))
      have q1 : ¬ y33.toInt = 1 := fun e => c33_1 ((eq32 _ _).mpr (e.trans (by decide)))
      have q2 : ¬ y33.toInt = 2 := fun e => c33_2 ((eq32 _ _).mpr (e.trans (by decide)))
      have q3 : ¬ y33.toInt = 3 := fun e => c33_3 ((eq32 _ _).mpr (e.trans (by decide)))
      have q4 : ¬ y33.toInt = 4 := fun e => c33_4 ((eq32 _ _).mpr (e.trans (by decide)))
      have q5 : ¬ y33.toInt = 5 := fun e => c33_5 ((eq32 _ _).mpr (e.trans (by decide)))
      have q6 : ¬ y33.toInt = 6 := fun e => c33_6 ((eq32 _ _).mpr (e.trans (by decide)))
      have q7 : ¬ y33.toInt = 7 := fun e => c33_7 ((eq32 _ _).mpr (e.trans (by decide)))
      have q8 : ¬ y33.toInt = 8 := fun e => c33_8 ((eq32 _ _).mpr (e.trans (by decide)))
      have q9 : ¬ y33.toInt = 9 := fun e => c33_9 ((eq32 _ _).mpr (e.trans (by decide)))
      have q10 : ¬ y33.toInt = 10 := fun e => c33_10 ((eq32 _ _).mpr (e.trans (by decide)))
      have q11 : ¬ y33.toInt = 11 := fun e => c33_11 ((eq32 _ _).mpr (e.trans (by decide)))
      have q12 : ¬ y33.toInt = 12 := fun e => c33_12 ((eq32 _ _).mpr (e.trans (by decide)))
      have q13 : ¬ y33.toInt = 13 := fun e => c33_13 ((eq32 _ _).mpr (e.trans (by decide)))
      have q14 : ¬ y33.toInt = 14 := fun e => c33_14 ((eq32 _ _).mpr (e.trans (by decide)))
      have q15 : ¬ y33.toInt = 15 := fun e => c33_15 ((eq32 _ _).mpr (e.trans (by decide)))
      have q16 : ¬ y33.toInt = 16 := fun e => c33_16 ((eq32 _ _).mpr (e.trans (by decide)))
      have q17 : ¬ y33.toInt = 17 := fun e => c33_17 ((eq32 _ _).mpr (e.trans (by decide)))
      have q18 : ¬ y33.toInt = 18 := fun e => c33_18 ((eq32 _ _).mpr (e.trans (by decide)))
      have q19 : ¬ y33.toInt = 19 := fun e => c33_19 ((eq32 _ _).mpr (e.trans (by decide)))
      have q20 : ¬ y33.toInt = 20 := fun e => c33_20 ((eq32 _ _).mpr (e.trans (by decide)))
      have q21 : ¬ y33.toInt = 21 := fun e => c33_21 ((eq32 _ _).mpr (e.trans (by decide)))
      have q22 : ¬ y33.toInt = 22 := fun e => c33_22 ((eq32 _ _).mpr (e.trans (by decide)))
      have q23 : ¬ y33.toInt = 23 := fun e => c33_23 ((eq32 _ _).mpr (e.trans (by decide)))
      have q24 : ¬ y33.toInt = 24 := fun e => c33_24 ((eq32 _ _).mpr (e.trans (by decide)))
      have q25 : ¬ y33.toInt = 25 := fun e => c33_25 ((eq32 _ _).mpr (e.trans (by decide)))
      have q26 : ¬ y33.toInt = 26 := fun e => c33_26 ((eq32 _ _).mpr (e.trans (by decide)))
      have q27 : ¬ y33.toInt = 27 := fun e => c33_27 ((eq32 _ _).mpr (e.trans (by decide)))
      have q28 : ¬ y33.toInt = 28 := fun e => c33_28 ((eq32 _ _).mpr (e.trans (by decide)))
      have q29 : ¬ y33.toInt = 29 := fun e => c33_29 ((eq32 _ _).mpr (e.trans (by decide)))
      have q30 : ¬ y33.toInt = 30 := fun e => c33_30 ((eq32 _ _).mpr (e.trans (by decide)))
      have q31 : ¬ y33.toInt = 31 := fun e => c33_31 ((eq32 _ _).mpr (e.trans (by decide)))
      have q32 : ¬ y33.toInt = 32 := fun e => c33_32 ((eq32 _ _).mpr (e.trans (by decide)))
      have q33 : ¬ y33.toInt = 33 := fun e => c33_33 ((eq32 _ _).mpr (e.trans (by decide)))
      have q34 : ¬ y33.toInt = 34 := fun e => c33_34 ((eq32 _ _).mpr (e.trans (by decide)))
      have q35 : ¬ y33.toInt = 35 := fun e => c33_35 ((eq32 _ _).mpr (e.trans (by decide)))
      have q36 : ¬ y33.toInt = 36 := fun e => c33_36 ((eq32 _ _).mpr (e.trans (by decide)))
      have q37 : ¬ y33.toInt = 37 := fun e => c33_37 ((eq32 _ _).mpr (e.trans (by decide)))
      have q38 : ¬ y33.toInt = 38 := fun e => c33_38 ((eq32 _ _).mpr (e.trans (by decide)))
      have q39 : ¬ y33.toInt = 39 := fun e => c33_39 ((eq32 _ _).mpr (e.trans (by decide)))
      have q40 : ¬ y33.toInt = 40 := fun e => c33_40 ((eq32 _ _).mpr (e.trans (by decide)))
      refine V.tOut 1530 (pc := 33) dL_law_33 (by skip; omega) (by decide) ?_
      refine V.room (bc := 3 * t) (bs := 420 * t + phi k) (by omega) (by omega) ?_
      exact hk _ _ _ _ _ _ _ hLI
