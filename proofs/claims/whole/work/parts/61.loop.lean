/-! ===== the law (law.py) ===== -/
theorem tsw33 {w : Int32} (h1 : ¬ w.toInt < 0) (h2 : ¬ 32 < w.toInt) : ∃ k, k < 33 ∧ w = nI k := by
  have h3 := cI_int (x := w) (by omega)
  exact ⟨cI w, by omega, nI_cI (by omega)⟩
theorem len6 {N i : Nat} (hN : N ≤ 3072) (hi : i ≤ N + 6) : nI N - 6 < nI i ↔ N < i + 6 := by
  have e1 : (nI N).toInt = N := nI_toInt (by omega)
  have e2 : (nI i).toInt = i := nI_toInt (by omega)
  have k6 : (6 : Int32).toInt = 6 := rfl
  rw [lt_i, sub_i (by omega) (by omega), e1, e2, k6]
  omega
set_option maxHeartbeats 4000000 in
set_option maxRecDepth 100000 in
theorem law_loop {b N : Nat} {xs : Nat → Int32} {l : Launch} {G : kG} {J : kJ} (hW : MachW b N xs l G J) (hN : N ≤ 3072) : ∀ (k i : Nat) (I : kI) (L : kL) (X : kX) (A : kA), i ≤ N + 6 → N + 6 < i + k → LI I L X A → J 159 I L X 18 (lwv b G i) [] := by
  have hM := hW.to
  intro k
  induction k with
  | zero => intros; omega
  | succ k ih =>
    intro i I L X A h1 h2 hI
    refine q_iload_n hM dL_law_18 rfl ?_
    refine q_aload_n hM dL_law_19 rfl ?_
    refine q_slen hW dL_law_20 ?_
    refine q_bipush (v := 6) hM dL_law_21 (by decide) ?_
    refine q_isub hM dL_law_23 ?_
    refine q_icmp_gt (tgt := 1039) hM dL_law_24 (by decide) (fun _ => ?_) (fun c24 => ?_)
    · refine q_iconst (v := 1) hM dL_law_1039 (by decide) ?_
      exact q_send hW dL_law_1040
    · have hi : i + 6 ≤ N := by
        rcases Nat.lt_or_ge N (i + 6) with q | q
        · exact absurd ((len6 hN h1).mpr q) c24
        · exact q
      have back : ∀ (I9 : kI) (L9 : kL) (X9 : kX) (A9 : kA), LI I9 L9 X9 A9 → J 159 I9 L9 X9 1033 (lwv b G i) [] := fun I9 L9 X9 A9 h9 => by
        refine sinc_4_3 hM dL_law_1033 (v := nI (i + 6)) (nI_add i 6) ?_
        refine q_goto (tgt := 18) hM dL_law_1036 (by decide) ?_
        exact ih (i + 6) I9 L9 X9 A9 (by omega) (by omega) h9
      refine q_aload_n hM dL_law_27 rfl ?_
      refine q_iload_n hM dL_law_28 rfl ?_
      refine q_sld hW hN i rfl (by omega) dL_law_29 ?_
      refine q_bipush (v := 63) hM dL_law_30 (by decide) ?_
      refine q_iand hM dL_law_32 ?_
      generalize xs i &&& 63 = w
      by_cases w1 : w.toInt < 0
      · exact q_tableOut (tgt := 1033) hM dL_law_33 (Or.inl w1) (by decide) (back _ _ _ _ hI)
      · by_cases w2 : 32 < w.toInt
        · exact q_tableOut (tgt := 1033) hM dL_law_33 (Or.inr w2) (by decide) (back _ _ _ _ hI)
        · obtain ⟨j, hj, rfl⟩ := tsw33 w1 w2
          rcases (show j = 0 ∨ j = 1 ∨ j = 2 ∨ j = 3 ∨ j = 4 ∨ j = 5 ∨ j = 6 ∨ j = 7 ∨ j = 8 ∨ j = 9 ∨ j = 10 ∨ j = 11 ∨ j = 12 ∨ j = 13 ∨ j = 14 ∨ j = 15 ∨ j = 16 ∨ j = 17 ∨ j = 18 ∨ j = 19 ∨ j = 20 ∨ j = 21 ∨ j = 22 ∨ j = 23 ∨ j = 24 ∨ j = 25 ∨ j = 26 ∨ j = 27 ∨ j = 28 ∨ j = 29 ∨ j = 30 ∨ j = 31 ∨ j = 32 by omega) with rfl | rfl | rfl | rfl | rfl | rfl | rfl | rfl | rfl | rfl | rfl | rfl | rfl | rfl | rfl | rfl | rfl | rfl | rfl | rfl | rfl | rfl | rfl | rfl | rfl | rfl | rfl | rfl | rfl | rfl | rfl | rfl | rfl
          · exact q_tableIn (off := 147) (tgt := 180) hM dL_law_33 (by decide) (by decide) (by decide) (by decide) (law_c0 hW hN hI hi back)
          · exact q_tableIn (off := 180) (tgt := 213) hM dL_law_33 (by decide) (by decide) (by decide) (by decide) (law_c1 hW hN hI hi back)
          · exact q_tableIn (off := 203) (tgt := 236) hM dL_law_33 (by decide) (by decide) (by decide) (by decide) (law_c2 hW hN hI hi back)
          · exact q_tableIn (off := 266) (tgt := 299) hM dL_law_33 (by decide) (by decide) (by decide) (by decide) (law_c3 hW hN hI hi back)
          · exact q_tableIn (off := 299) (tgt := 332) hM dL_law_33 (by decide) (by decide) (by decide) (by decide) (law_c4 hW hN hI hi back)
          · exact q_tableIn (off := 342) (tgt := 375) hM dL_law_33 (by decide) (by decide) (by decide) (by decide) (law_c5 hW hN hI hi back)
          · exact q_tableIn (off := 365) (tgt := 398) hM dL_law_33 (by decide) (by decide) (by decide) (by decide) (law_c6 hW hN hI hi back)
          · exact q_tableIn (off := 398) (tgt := 431) hM dL_law_33 (by decide) (by decide) (by decide) (by decide) (law_c7 hW hN hI hi back)
          · exact q_tableIn (off := 421) (tgt := 454) hM dL_law_33 (by decide) (by decide) (by decide) (by decide) (law_c8 hW hN hI hi back)
          · exact q_tableIn (off := 444) (tgt := 477) hM dL_law_33 (by decide) (by decide) (by decide) (by decide) (law_c9 hW hN hI hi back)
          · exact q_tableIn (off := 497) (tgt := 530) hM dL_law_33 (by decide) (by decide) (by decide) (by decide) (law_c10 hW hN hI hi back)
          · exact q_tableIn (off := 550) (tgt := 583) hM dL_law_33 (by decide) (by decide) (by decide) (by decide) (law_c11 hW hN hI hi back)
          · exact q_tableIn (off := 573) (tgt := 606) hM dL_law_33 (by decide) (by decide) (by decide) (by decide) (law_c12 hW hN hI hi back)
          · exact q_tableIn (off := 596) (tgt := 629) hM dL_law_33 (by decide) (by decide) (by decide) (by decide) (law_c13 hW hN hI hi back)
          · exact q_tableIn (off := 619) (tgt := 652) hM dL_law_33 (by decide) (by decide) (by decide) (by decide) (law_c14 hW hN hI hi back)
          · exact q_tableIn (off := 642) (tgt := 675) hM dL_law_33 (by decide) (by decide) (by decide) (by decide) (law_c15 hW hN hI hi back)
          · exact q_tableIn (off := 665) (tgt := 698) hM dL_law_33 (by decide) (by decide) (by decide) (by decide) (law_c16 hW hN hI hi back)
          · exact q_tableIn (off := 689) (tgt := 722) hM dL_law_33 (by decide) (by decide) (by decide) (by decide) (law_c17 hW hN hI hi back)
          · exact q_tableIn (off := 713) (tgt := 746) hM dL_law_33 (by decide) (by decide) (by decide) (by decide) (law_c18 hW hN hI hi back)
          · exact q_tableIn (off := 736) (tgt := 769) hM dL_law_33 (by decide) (by decide) (by decide) (by decide) (law_c19 hW hN hI hi back)
          · exact q_tableIn (off := 760) (tgt := 793) hM dL_law_33 (by decide) (by decide) (by decide) (by decide) (law_c20 hW hN hI hi back)
          · exact q_tableIn (off := 783) (tgt := 816) hM dL_law_33 (by decide) (by decide) (by decide) (by decide) (law_c21 hW hN hI hi back)
          · exact q_tableIn (off := 806) (tgt := 839) hM dL_law_33 (by decide) (by decide) (by decide) (by decide) (law_c22 hW hN hI hi back)
          · exact q_tableIn (off := 829) (tgt := 862) hM dL_law_33 (by decide) (by decide) (by decide) (by decide) (law_c23 hW hN hI hi back)
          · exact q_tableIn (off := 852) (tgt := 885) hM dL_law_33 (by decide) (by decide) (by decide) (by decide) (law_c24 hW hN hI hi back)
          · exact q_tableIn (off := 875) (tgt := 908) hM dL_law_33 (by decide) (by decide) (by decide) (by decide) (law_c25 hW hN hI hi back)
          · exact q_tableIn (off := 888) (tgt := 921) hM dL_law_33 (by decide) (by decide) (by decide) (by decide) (law_c26 hW hN hI hi back)
          · exact q_tableIn (off := 911) (tgt := 944) hM dL_law_33 (by decide) (by decide) (by decide) (by decide) (law_c27 hW hN hI hi back)
          · exact q_tableIn (off := 924) (tgt := 957) hM dL_law_33 (by decide) (by decide) (by decide) (by decide) (law_c28 hW hN hI hi back)
          · exact q_tableIn (off := 947) (tgt := 980) hM dL_law_33 (by decide) (by decide) (by decide) (by decide) (law_c29 hW hN hI hi back)
          · exact q_tableIn (off := 960) (tgt := 993) hM dL_law_33 (by decide) (by decide) (by decide) (by decide) (law_c30 hW hN hI hi back)
          · exact q_tableIn (off := 973) (tgt := 1006) hM dL_law_33 (by decide) (by decide) (by decide) (by decide) (law_c31 hW hN hI hi back)
          · exact q_tableIn (off := 986) (tgt := 1019) hM dL_law_33 (by decide) (by decide) (by decide) (by decide) (law_c32 hW hN hI hi back)
