section
variable {p : Program} {l : Launch} {e : Env} {s : State} {m : MethodId} {below : List Frame} {meth : Method} {c : Code} {E : zE} {sa : Nat → Nat} {cells slots : Nat} {μ : zM} {ov : Nat → Int64} {b L : Nat} {xs : Nat → Int32} {t c9 nc n A i : Nat}
set_option maxHeartbeats 4000000 in
set_option maxRecDepth 100000 in
theorem law_of (hfl : l.stackTraces = false) (hL : L ≤ 2560) (hX : va_X b L xs s s.heap) (hbl : b < s.heap.size) (hbA : ¬ zA E s.heap.size b) (C : zC p s m #[Value.ref b] c E sa cL_law 7 RL wsL_law) (h : zR2 μ μ t c9 nc n A) (hA : A < 512) (hi : i + 4 < L) (hc0 : cells ≤ 601024) (hs0 : slots ≤ 7293034) (hc : cells + 1 ≤ 601024) (hs : slots + 6 ≤ 7293034)
    (K : ∀ (μ' : zM) (ov' : Nat → Int64) (t' c' nc' n' : Nat), zR2 μ' μ' t' c' nc' n' (A + 1) → zW p l e room_1 s m #[Value.ref b] below meth c E 7 (cells + 1) (slots + 6) (lw_Z below #[Value.ref b] s) 1405 [some (.ref b), some (.ref (zob E 0)), some (.ref (zob E 7)), some (.ref (zob E 8)), some (.int (nI i)), none, none] [] μ' ov') :
    zW p l e room_1 s m #[Value.ref b] below meth c E 7 cells slots (lw_Z below #[Value.ref b] s) 792 [some (.ref b), some (.ref (zob E 0)), some (.ref (zob E 7)), some (.ref (zob E 8)), some (.int (nI i)), none, none] [] μ ov := by
  refine z_aloadn (i := 1) (pc := 792) C dL_law_792 rfl rfl ?_
  refine z_aloadn (i := 0) (pc := 793) C dL_law_793 rfl rfl ?_
  refine z_iload (i := 4) (pc := 794) C dL_law_794 rfl ?_
  refine z_iconst (v := 1) (pc := 796) C dL_law_796 (by decide) ?_
  refine z_iadd (pc := 797) C dL_law_797 ?_
  refine z_sld (pc := 798) C hX hbl hbA (i + 1) (nI_add i 1) (by omega) hL dL_law_798 ?_
  refine z_aloadn (i := 0) (pc := 799) C dL_law_799 rfl rfl ?_
  refine z_iload (i := 4) (pc := 800) C dL_law_800 rfl ?_
  refine z_iconst (v := 2) (pc := 802) C dL_law_802 (by decide) ?_
  refine z_iadd (pc := 803) C dL_law_803 ?_
  refine z_sld (pc := 804) C hX hbl hbA (i + 2) (nI_add i 2) (by omega) hL dL_law_804 ?_
  refine z_aloadn (i := 3) (pc := 805) C dL_law_805 rfl rfl ?_
  refine z_callSWi (pc := 806) (n := 4) (As := [.ref (zob E 0), .int (xs (i + 1)), .int (xs (i + 2)), .ref (zob E 8)]) (rest := []) C (c_L_of l hfl E sa (μ := μ) (ov := ov) (i := (xs (i + 1))) (w := (xs (i + 2))) t c9 nc n h.1) (zwS_g gL_law_L_of) rfl zfV_L_of.2 ⟨(Nat.le_of_ble_eq_true rfl), (Nat.le_of_ble_eq_true rfl)⟩ rfl rfl (Nat.le_of_ble_eq_true rfl) ⟨hc, hs⟩ dL_law_806 (fun r9 μ9 ov9 hp => ?_)
  obtain ⟨hms, hK⟩ := s_of (i := (xs (i + 1))) (w := (xs (i + 2))) h hA hp
  have HM := hms.MI h.2.1
  obtain ⟨M1, M2, M3, M4, M5, M6, M7, M8, M9⟩ := id HM
  refine z_istore5 (pc := 809) C (by decide) (fun w hw => by cases hw; exact (show ¬ (1 = 2) from by decide)) dL_law_809 ?_
  refine z_aloadn (i := 2) (pc := 811) C dL_law_811 rfl rfl ?_
  refine z_aloadn (i := 0) (pc := 812) C dL_law_812 rfl rfl ?_
  refine z_iload (i := 4) (pc := 813) C dL_law_813 rfl ?_
  refine z_iconst (v := 1) (pc := 815) C dL_law_815 (by decide) ?_
  refine z_iadd (pc := 816) C dL_law_816 ?_
  refine z_sld (pc := 817) C hX hbl hbA (i + 1) (nI_add i 1) (by omega) hL dL_law_817 ?_
  refine z_aloadn (i := 0) (pc := 818) C dL_law_818 rfl rfl ?_
  refine z_iload (i := 4) (pc := 819) C dL_law_819 rfl ?_
  refine z_iconst (v := 2) (pc := 821) C dL_law_821 (by decide) ?_
  refine z_iadd (pc := 822) C dL_law_822 ?_
  refine z_sld (pc := 823) C hX hbl hbA (i + 2) (nI_add i 2) (by omega) hL dL_law_823 ?_
  refine z_callVi (pc := 824) (n := 2) (As := [.int (xs (i + 1)), .int (xs (i + 2))]) (rest := []) C (c_X5_of l E sa (μ := μ9) (ov := ov9) (i := (xs (i + 1))) (w := (xs (i + 2))) nc M4 M5) gL_law_X5_of rfl zfV_X5_of ⟨(Nat.le_of_ble_eq_true rfl), (Nat.le_of_ble_eq_true rfl)⟩ rfl (zRec_X5 E) rfl (Nat.le_of_ble_eq_true rfl) ⟨hc, hs⟩ dL_law_824 (fun r8 μ8 ov8 hq => ?_)
  have ok := hK _ _ _ hq
  refine z_istore6 (pc := 827) C (by decide) (fun w hw => by cases hw; exact (show ¬ (1 = 2) from by decide)) dL_law_827 ?_
  refine z_aloadn (i := 2) (pc := 829) C dL_law_829 rfl rfl ?_
  refine z_callVi (pc := 830) (n := 0) (As := []) (rest := []) C (c_X5_thrown l E sa (μ := μ8) (ov := ov8)) gL_law_X5_thrown rfl zfV_X5_thrown ⟨(Nat.le_of_ble_eq_true rfl), (Nat.le_of_ble_eq_true rfl)⟩ rfl (zRec_X5 E) rfl (Nat.le_of_ble_eq_true rfl) ⟨hc, hs⟩ dL_law_830 (fun r7 μ7 ov7 hv => ?_)
  obtain ⟨v1, v2, v3⟩ := hv
  subst v2 v3
  refine z_iload (i := 5) (pc := 833) C dL_law_833 rfl ?_
  refine z_icmp_eq (tgt := 840) (pc := 835) C dL_law_835 (by decide) (fun _ => ?_) (fun c2 => absurd (v1.trans ok.1.symm) c2)
  refine z_iload (i := 5) (pc := 840) C dL_law_840 rfl ?_
  have J9 : zW p l e room_1 s m #[Value.ref b] below meth c E 7 (cells + 1) (slots + 6) (lw_Z below #[Value.ref b] s) 857 [some (.ref b), some (.ref (zob E 0)), some (.ref (zob E 7)), some (.ref (zob E 8)), some (.int (nI i)), some (.int r9), some (.int r8)] [] μ7 ov7 := by
    obtain ⟨t1, d1, nc1, n1, h1⟩ := ok.2.2
    have K2 := K _ ov7 _ _ _ _ h1
    exact z_goto (tgt := 1405) (pc := 857) C dL_law_857 (by decide) (z_weak (lv' := [some (.ref b), some (.ref (zob E 0)), some (.ref (zob E 7)), some (.ref (zob E 8)), some (.int (nI i)), none, none]) ⟨rfl, rfl, rfl, rfl, rfl, trivial⟩ K2)
  refine z_if_ne (tgt := 857) (pc := 842) C dL_law_842 (by decide) (fun _ => J9) (fun c3 => ?_)
  have c4 := ok.2.1 c3
  refine z_aloadn (i := 3) (pc := 845) C dL_law_845 rfl rfl ?_
  refine z_iconst (v := 0) (pc := 846) C dL_law_846 (by decide) ?_
  refine z_lald (pc := 847) C rfl dL_law_847 ?_
  refine z_iload (i := 6) (pc := 848) C dL_law_848 rfl ?_
  refine z_i2l (pc := 850) C dL_law_850 ?_
  refine z_lcmp (pc := 851) C dL_law_851 ?_
  exact z_if_eq (tgt := 857) (pc := 852) C dL_law_852 (by decide) (fun _ => J9) (fun c6 => absurd ((lg_cmp_eq _ _).mpr c4) c6)
set_option maxHeartbeats 4000000 in
set_option maxRecDepth 100000 in
theorem law_measured (hfl : l.stackTraces = false) (hL : L ≤ 2560) (hX : va_X b L xs s s.heap) (hbl : b < s.heap.size) (hbA : ¬ zA E s.heap.size b) (C : zC p s m #[Value.ref b] c E sa cL_law 7 RL wsL_law) (h : zR2 μ μ t c9 nc n A) (hA : A < 512) (hi : i + 4 < L) (hc0 : cells ≤ 601024) (hs0 : slots ≤ 7293034) (hc : cells + 1 ≤ 601024) (hs : slots + 6 ≤ 7293034)
    (K : ∀ (μ' : zM) (ov' : Nat → Int64) (t' c' nc' n' : Nat), zR2 μ' μ' t' c' nc' n' (A + 1) → zW p l e room_1 s m #[Value.ref b] below meth c E 7 (cells + 1) (slots + 6) (lw_Z below #[Value.ref b] s) 1405 [some (.ref b), some (.ref (zob E 0)), some (.ref (zob E 7)), some (.ref (zob E 8)), some (.int (nI i)), none, none] [] μ' ov') :
    zW p l e room_1 s m #[Value.ref b] below meth c E 7 cells slots (lw_Z below #[Value.ref b] s) 860 [some (.ref b), some (.ref (zob E 0)), some (.ref (zob E 7)), some (.ref (zob E 8)), some (.int (nI i)), none, none] [] μ ov := by
  refine z_aloadn (i := 1) (pc := 860) C dL_law_860 rfl rfl ?_
  refine z_aloadn (i := 0) (pc := 861) C dL_law_861 rfl rfl ?_
  refine z_iload (i := 4) (pc := 862) C dL_law_862 rfl ?_
  refine z_iconst (v := 1) (pc := 864) C dL_law_864 (by decide) ?_
  refine z_iadd (pc := 865) C dL_law_865 ?_
  refine z_sld (pc := 866) C hX hbl hbA (i + 1) (nI_add i 1) (by omega) hL dL_law_866 ?_
  refine z_aloadn (i := 0) (pc := 867) C dL_law_867 rfl rfl ?_
  refine z_iload (i := 4) (pc := 868) C dL_law_868 rfl ?_
  refine z_iconst (v := 2) (pc := 870) C dL_law_870 (by decide) ?_
  refine z_iadd (pc := 871) C dL_law_871 ?_
  refine z_sld (pc := 872) C hX hbl hbA (i + 2) (nI_add i 2) (by omega) hL dL_law_872 ?_
  refine z_aloadn (i := 0) (pc := 873) C dL_law_873 rfl rfl ?_
  refine z_iload (i := 4) (pc := 874) C dL_law_874 rfl ?_
  refine z_iconst (v := 3) (pc := 876) C dL_law_876 (by decide) ?_
  refine z_iadd (pc := 877) C dL_law_877 ?_
  refine z_sld (pc := 878) C hX hbl hbA (i + 3) (nI_add i 3) (by omega) hL dL_law_878 ?_
  have J1 : zW p l e room_1 s m #[Value.ref b] below meth c E 7 cells slots (lw_Z below #[Value.ref b] s) 887 [some (.ref b), some (.ref (zob E 0)), some (.ref (zob E 7)), some (.ref (zob E 8)), some (.int (nI i)), none, none] [.int (zb (¬ xs (i + 3) = 0)), .int (xs (i + 2)), .int (xs (i + 1)), .ref (zob E 0)] μ ov := by
    refine z_aloadn (i := 3) (pc := 887) C dL_law_887 rfl rfl ?_
    refine z_callSWi (pc := 888) (n := 5) (As := [.ref (zob E 0), .int (xs (i + 1)), .int (xs (i + 2)), .int (zb (¬ xs (i + 3) = 0)), .ref (zob E 8)]) (rest := []) C (c_L_measured l hfl E sa (μ := μ) (ov := ov) (i := (xs (i + 1))) (d := (xs (i + 2))) (b := (zb (¬ xs (i + 3) = 0))) t c9 nc n h.1) (zwS_g gL_law_L_measured) rfl zfV_L_measured.2 ⟨(Nat.le_of_ble_eq_true rfl), (Nat.le_of_ble_eq_true rfl)⟩ rfl rfl (Nat.le_of_ble_eq_true rfl) ⟨hc, hs⟩ dL_law_888 (fun r9 μ9 ov9 hp => ?_)
    obtain ⟨hms, hK⟩ := s_measured (i := (xs (i + 1))) (d := (xs (i + 2))) (b := (zb (¬ xs (i + 3) = 0))) h hA hp
    have HM := hms.MI h.2.1
    obtain ⟨M1, M2, M3, M4, M5, M6, M7, M8, M9⟩ := id HM
    refine z_istore5 (pc := 891) C (by decide) (fun w hw => by cases hw; exact (show ¬ (1 = 2) from by decide)) dL_law_891 ?_
    refine z_aloadn (i := 2) (pc := 893) C dL_law_893 rfl rfl ?_
    refine z_aloadn (i := 0) (pc := 894) C dL_law_894 rfl rfl ?_
    refine z_iload (i := 4) (pc := 895) C dL_law_895 rfl ?_
    refine z_iconst (v := 1) (pc := 897) C dL_law_897 (by decide) ?_
    refine z_iadd (pc := 898) C dL_law_898 ?_
    refine z_sld (pc := 899) C hX hbl hbA (i + 1) (nI_add i 1) (by omega) hL dL_law_899 ?_
    refine z_aloadn (i := 0) (pc := 900) C dL_law_900 rfl rfl ?_
    refine z_iload (i := 4) (pc := 901) C dL_law_901 rfl ?_
    refine z_iconst (v := 2) (pc := 903) C dL_law_903 (by decide) ?_
    refine z_iadd (pc := 904) C dL_law_904 ?_
    refine z_sld (pc := 905) C hX hbl hbA (i + 2) (nI_add i 2) (by omega) hL dL_law_905 ?_
    refine z_aloadn (i := 0) (pc := 906) C dL_law_906 rfl rfl ?_
    refine z_iload (i := 4) (pc := 907) C dL_law_907 rfl ?_
    refine z_iconst (v := 3) (pc := 909) C dL_law_909 (by decide) ?_
    refine z_iadd (pc := 910) C dL_law_910 ?_
    refine z_sld (pc := 911) C hX hbl hbA (i + 3) (nI_add i 3) (by omega) hL dL_law_911 ?_
    have J2 : zW p l e room_1 s m #[Value.ref b] below meth c E 7 (cells + 1) (slots + 6) (lw_Z below #[Value.ref b] s) 920 [some (.ref b), some (.ref (zob E 0)), some (.ref (zob E 7)), some (.ref (zob E 8)), some (.int (nI i)), some (.int r9), none] [.int (zb (¬ xs (i + 3) = 0)), .int (xs (i + 2)), .int (xs (i + 1)), .ref (zob E 7)] μ9 ov9 := by
      refine z_callVi (pc := 920) (n := 3) (As := [.int (xs (i + 1)), .int (xs (i + 2)), .int (zb (¬ xs (i + 3) = 0))]) (rest := []) C (c_X5_measured l E sa (μ := μ9) (ov := ov9) (i := (xs (i + 1))) (d := (xs (i + 2))) (b := (zb (¬ xs (i + 3) = 0))) t M1 M2 n M6 M7 M9) gL_law_X5_measured rfl zfV_X5_measured ⟨(Nat.le_of_ble_eq_true rfl), (Nat.le_of_ble_eq_true rfl)⟩ rfl (zRec_X5 E) rfl (Nat.le_of_ble_eq_true rfl) ⟨hc, hs⟩ dL_law_920 (fun r8 μ8 ov8 hq => ?_)
      have ok := hK _ _ _ hq
      refine z_istore6 (pc := 923) C (by decide) (fun w hw => by cases hw; exact (show ¬ (1 = 2) from by decide)) dL_law_923 ?_
      refine z_aloadn (i := 2) (pc := 925) C dL_law_925 rfl rfl ?_
      refine z_callVi (pc := 926) (n := 0) (As := []) (rest := []) C (c_X5_thrown l E sa (μ := μ8) (ov := ov8)) gL_law_X5_thrown rfl zfV_X5_thrown ⟨(Nat.le_of_ble_eq_true rfl), (Nat.le_of_ble_eq_true rfl)⟩ rfl (zRec_X5 E) rfl (Nat.le_of_ble_eq_true rfl) ⟨hc, hs⟩ dL_law_926 (fun r7 μ7 ov7 hv => ?_)
      obtain ⟨v1, v2, v3⟩ := hv
      subst v2 v3
      refine z_iload (i := 5) (pc := 929) C dL_law_929 rfl ?_
      refine z_icmp_eq (tgt := 936) (pc := 931) C dL_law_931 (by decide) (fun _ => ?_) (fun c2 => absurd (v1.trans ok.1.symm) c2)
      refine z_iload (i := 5) (pc := 936) C dL_law_936 rfl ?_
      have J9 : zW p l e room_1 s m #[Value.ref b] below meth c E 7 (cells + 1) (slots + 6) (lw_Z below #[Value.ref b] s) 953 [some (.ref b), some (.ref (zob E 0)), some (.ref (zob E 7)), some (.ref (zob E 8)), some (.int (nI i)), some (.int r9), some (.int r8)] [] μ7 ov7 := by
        obtain ⟨t1, d1, nc1, n1, h1⟩ := ok.2.2
        have K2 := K _ ov7 _ _ _ _ h1
        exact z_goto (tgt := 1405) (pc := 953) C dL_law_953 (by decide) (z_weak (lv' := [some (.ref b), some (.ref (zob E 0)), some (.ref (zob E 7)), some (.ref (zob E 8)), some (.int (nI i)), none, none]) ⟨rfl, rfl, rfl, rfl, rfl, trivial⟩ K2)
      refine z_if_ne (tgt := 953) (pc := 938) C dL_law_938 (by decide) (fun _ => J9) (fun c3 => ?_)
      have c4 := ok.2.1 c3
      refine z_aloadn (i := 3) (pc := 941) C dL_law_941 rfl rfl ?_
      refine z_iconst (v := 0) (pc := 942) C dL_law_942 (by decide) ?_
      refine z_lald (pc := 943) C rfl dL_law_943 ?_
      refine z_iload (i := 6) (pc := 944) C dL_law_944 rfl ?_
      refine z_i2l (pc := 946) C dL_law_946 ?_
      refine z_lcmp (pc := 947) C dL_law_947 ?_
      exact z_if_eq (tgt := 953) (pc := 948) C dL_law_948 (by decide) (fun _ => J9) (fun c6 => absurd ((lg_cmp_eq _ _).mpr c4) c6)
    refine z_if_eq (tgt := 919) (pc := 912) C dL_law_912 (by decide) (fun c1 => ?_) (fun c1 => ?_)
    · refine z_iconst (v := 0) (pc := 919) C dL_law_919 (by decide) ?_
      exact z_topi (y := zb (¬ xs (i + 3) = 0)) (zb_f (fun z => z c1)).symm J2
    · refine z_iconst (v := 1) (pc := 915) C dL_law_915 (by decide) ?_
      refine z_goto (tgt := 920) (pc := 916) C dL_law_916 (by decide) ?_
      exact z_topi (y := zb (¬ xs (i + 3) = 0)) (zb_t c1).symm J2
  refine z_if_eq (tgt := 886) (pc := 879) C dL_law_879 (by decide) (fun c1 => ?_) (fun c1 => ?_)
  · refine z_iconst (v := 0) (pc := 886) C dL_law_886 (by decide) ?_
    exact z_topi (y := zb (¬ xs (i + 3) = 0)) (zb_f (fun z => z c1)).symm J1
  · refine z_iconst (v := 1) (pc := 882) C dL_law_882 (by decide) ?_
    refine z_goto (tgt := 887) (pc := 883) C dL_law_883 (by decide) ?_
    exact z_topi (y := zb (¬ xs (i + 3) = 0)) (zb_t c1).symm J1
set_option maxHeartbeats 4000000 in
set_option maxRecDepth 100000 in
theorem law_closes (hfl : l.stackTraces = false) (hL : L ≤ 2560) (hX : va_X b L xs s s.heap) (hbl : b < s.heap.size) (hbA : ¬ zA E s.heap.size b) (C : zC p s m #[Value.ref b] c E sa cL_law 7 RL wsL_law) (h : zR2 μ μ t c9 nc n A) (hA : A < 512) (hi : i + 4 < L) (hc0 : cells ≤ 601024) (hs0 : slots ≤ 7293034) (hc : cells + 1 ≤ 601024) (hs : slots + 6 ≤ 7293034)
    (K : ∀ (μ' : zM) (ov' : Nat → Int64) (t' c' nc' n' : Nat), zR2 μ' μ' t' c' nc' n' (A + 1) → zW p l e room_1 s m #[Value.ref b] below meth c E 7 (cells + 1) (slots + 6) (lw_Z below #[Value.ref b] s) 1405 [some (.ref b), some (.ref (zob E 0)), some (.ref (zob E 7)), some (.ref (zob E 8)), some (.int (nI i)), none, none] [] μ' ov') :
    zW p l e room_1 s m #[Value.ref b] below meth c E 7 cells slots (lw_Z below #[Value.ref b] s) 956 [some (.ref b), some (.ref (zob E 0)), some (.ref (zob E 7)), some (.ref (zob E 8)), some (.int (nI i)), none, none] [] μ ov := by
  refine z_aloadn (i := 1) (pc := 956) C dL_law_956 rfl rfl ?_
  refine z_aloadn (i := 0) (pc := 957) C dL_law_957 rfl rfl ?_
  refine z_iload (i := 4) (pc := 958) C dL_law_958 rfl ?_
  refine z_iconst (v := 1) (pc := 960) C dL_law_960 (by decide) ?_
  refine z_iadd (pc := 961) C dL_law_961 ?_
  refine z_sld (pc := 962) C hX hbl hbA (i + 1) (nI_add i 1) (by omega) hL dL_law_962 ?_
  refine z_aloadn (i := 0) (pc := 963) C dL_law_963 rfl rfl ?_
  refine z_iload (i := 4) (pc := 964) C dL_law_964 rfl ?_
  refine z_iconst (v := 2) (pc := 966) C dL_law_966 (by decide) ?_
  refine z_iadd (pc := 967) C dL_law_967 ?_
  refine z_sld (pc := 968) C hX hbl hbA (i + 2) (nI_add i 2) (by omega) hL dL_law_968 ?_
  refine z_aloadn (i := 0) (pc := 969) C dL_law_969 rfl rfl ?_
  refine z_iload (i := 4) (pc := 970) C dL_law_970 rfl ?_
  refine z_iconst (v := 3) (pc := 972) C dL_law_972 (by decide) ?_
  refine z_iadd (pc := 973) C dL_law_973 ?_
  refine z_sld (pc := 974) C hX hbl hbA (i + 3) (nI_add i 3) (by omega) hL dL_law_974 ?_
  refine z_aloadn (i := 0) (pc := 975) C dL_law_975 rfl rfl ?_
  refine z_iload (i := 4) (pc := 976) C dL_law_976 rfl ?_
  refine z_iconst (v := 4) (pc := 978) C dL_law_978 (by decide) ?_
  refine z_iadd (pc := 979) C dL_law_979 ?_
  refine z_sld (pc := 980) C hX hbl hbA (i + 4) (nI_add i 4) (by omega) hL dL_law_980 ?_
  refine z_aloadn (i := 3) (pc := 981) C dL_law_981 rfl rfl ?_
  refine z_callSWi (pc := 982) (n := 6) (As := [.ref (zob E 0), .int (xs (i + 1)), .int (xs (i + 2)), .int (xs (i + 3)), .int (xs (i + 4)), .ref (zob E 8)]) (rest := []) C (c_L_closes l hfl E sa (μ := μ) (ov := ov) (a := (xs (i + 1))) (b := (xs (i + 2))) (c8 := (xs (i + 3))) (d := (xs (i + 4))) t c9 nc n h.1) (zwS_g gL_law_L_closes) rfl zfV_L_closes.2 ⟨(Nat.le_of_ble_eq_true rfl), (Nat.le_of_ble_eq_true rfl)⟩ rfl rfl (Nat.le_of_ble_eq_true rfl) ⟨hc, hs⟩ dL_law_982 (fun r9 μ9 ov9 hp => ?_)
  obtain ⟨hms, hK⟩ := s_closes (a := (xs (i + 1))) (b := (xs (i + 2))) (c8 := (xs (i + 3))) (d := (xs (i + 4))) h hA hp
  have HM := hms.MI h.2.1
  obtain ⟨M1, M2, M3, M4, M5, M6, M7, M8, M9⟩ := id HM
  refine z_istore5 (pc := 985) C (by decide) (fun w hw => by cases hw; exact (show ¬ (1 = 2) from by decide)) dL_law_985 ?_
  refine z_aloadn (i := 2) (pc := 987) C dL_law_987 rfl rfl ?_
  refine z_aloadn (i := 0) (pc := 988) C dL_law_988 rfl rfl ?_
  refine z_iload (i := 4) (pc := 989) C dL_law_989 rfl ?_
  refine z_iconst (v := 1) (pc := 991) C dL_law_991 (by decide) ?_
  refine z_iadd (pc := 992) C dL_law_992 ?_
  refine z_sld (pc := 993) C hX hbl hbA (i + 1) (nI_add i 1) (by omega) hL dL_law_993 ?_
  refine z_aloadn (i := 0) (pc := 994) C dL_law_994 rfl rfl ?_
  refine z_iload (i := 4) (pc := 995) C dL_law_995 rfl ?_
  refine z_iconst (v := 2) (pc := 997) C dL_law_997 (by decide) ?_
  refine z_iadd (pc := 998) C dL_law_998 ?_
  refine z_sld (pc := 999) C hX hbl hbA (i + 2) (nI_add i 2) (by omega) hL dL_law_999 ?_
  refine z_aloadn (i := 0) (pc := 1000) C dL_law_1000 rfl rfl ?_
  refine z_iload (i := 4) (pc := 1001) C dL_law_1001 rfl ?_
  refine z_iconst (v := 3) (pc := 1003) C dL_law_1003 (by decide) ?_
  refine z_iadd (pc := 1004) C dL_law_1004 ?_
  refine z_sld (pc := 1005) C hX hbl hbA (i + 3) (nI_add i 3) (by omega) hL dL_law_1005 ?_
  refine z_aloadn (i := 0) (pc := 1006) C dL_law_1006 rfl rfl ?_
  refine z_iload (i := 4) (pc := 1007) C dL_law_1007 rfl ?_
  refine z_iconst (v := 4) (pc := 1009) C dL_law_1009 (by decide) ?_
  refine z_iadd (pc := 1010) C dL_law_1010 ?_
  refine z_sld (pc := 1011) C hX hbl hbA (i + 4) (nI_add i 4) (by omega) hL dL_law_1011 ?_
  refine z_callVi (pc := 1012) (n := 4) (As := [.int (xs (i + 1)), .int (xs (i + 2)), .int (xs (i + 3)), .int (xs (i + 4))]) (rest := []) C (c_X5_closes l E sa (μ := μ9) (ov := ov9) (a := (xs (i + 1))) (b := (xs (i + 2))) (c8 := (xs (i + 3))) (d := (xs (i + 4))) t c9 nc n HM) gL_law_X5_closes rfl zfV_X5_closes ⟨(Nat.le_of_ble_eq_true rfl), (Nat.le_of_ble_eq_true rfl)⟩ rfl (zRec_X5 E) rfl (Nat.le_of_ble_eq_true rfl) ⟨hc, hs⟩ dL_law_1012 (fun r8 μ8 ov8 hq => ?_)
  have ok := hK _ _ _ hq
  refine z_istore6 (pc := 1015) C (by decide) (fun w hw => by cases hw; exact (show ¬ (1 = 2) from by decide)) dL_law_1015 ?_
  refine z_aloadn (i := 2) (pc := 1017) C dL_law_1017 rfl rfl ?_
  refine z_callVi (pc := 1018) (n := 0) (As := []) (rest := []) C (c_X5_thrown l E sa (μ := μ8) (ov := ov8)) gL_law_X5_thrown rfl zfV_X5_thrown ⟨(Nat.le_of_ble_eq_true rfl), (Nat.le_of_ble_eq_true rfl)⟩ rfl (zRec_X5 E) rfl (Nat.le_of_ble_eq_true rfl) ⟨hc, hs⟩ dL_law_1018 (fun r7 μ7 ov7 hv => ?_)
  obtain ⟨v1, v2, v3⟩ := hv
  subst v2 v3
  refine z_iload (i := 5) (pc := 1021) C dL_law_1021 rfl ?_
  refine z_icmp_eq (tgt := 1028) (pc := 1023) C dL_law_1023 (by decide) (fun _ => ?_) (fun c2 => absurd (v1.trans ok.1.symm) c2)
  refine z_iload (i := 5) (pc := 1028) C dL_law_1028 rfl ?_
  have J9 : zW p l e room_1 s m #[Value.ref b] below meth c E 7 (cells + 1) (slots + 6) (lw_Z below #[Value.ref b] s) 1045 [some (.ref b), some (.ref (zob E 0)), some (.ref (zob E 7)), some (.ref (zob E 8)), some (.int (nI i)), some (.int r9), some (.int r8)] [] μ7 ov7 := by
    obtain ⟨t1, d1, nc1, n1, h1⟩ := ok.2.2
    have K2 := K _ ov7 _ _ _ _ h1
    exact z_goto (tgt := 1405) (pc := 1045) C dL_law_1045 (by decide) (z_weak (lv' := [some (.ref b), some (.ref (zob E 0)), some (.ref (zob E 7)), some (.ref (zob E 8)), some (.int (nI i)), none, none]) ⟨rfl, rfl, rfl, rfl, rfl, trivial⟩ K2)
  refine z_if_ne (tgt := 1045) (pc := 1030) C dL_law_1030 (by decide) (fun _ => J9) (fun c3 => ?_)
  have c4 := ok.2.1 c3
  refine z_aloadn (i := 3) (pc := 1033) C dL_law_1033 rfl rfl ?_
  refine z_iconst (v := 0) (pc := 1034) C dL_law_1034 (by decide) ?_
  refine z_lald (pc := 1035) C rfl dL_law_1035 ?_
  refine z_iload (i := 6) (pc := 1036) C dL_law_1036 rfl ?_
  refine z_i2l (pc := 1038) C dL_law_1038 ?_
  refine z_lcmp (pc := 1039) C dL_law_1039 ?_
  exact z_if_eq (tgt := 1045) (pc := 1040) C dL_law_1040 (by decide) (fun _ => J9) (fun c6 => absurd ((lg_cmp_eq _ _).mpr c4) c6)
set_option maxHeartbeats 4000000 in
set_option maxRecDepth 100000 in
theorem law_open (hfl : l.stackTraces = false) (hL : L ≤ 2560) (hX : va_X b L xs s s.heap) (hbl : b < s.heap.size) (hbA : ¬ zA E s.heap.size b) (C : zC p s m #[Value.ref b] c E sa cL_law 7 RL wsL_law) (h : zR2 μ μ t c9 nc n A) (hA : A < 512) (hi : i + 4 < L) (hc0 : cells ≤ 601024) (hs0 : slots ≤ 7293034) (hc : cells + 1 ≤ 601024) (hs : slots + 6 ≤ 7293034)
    (K : ∀ (μ' : zM) (ov' : Nat → Int64) (t' c' nc' n' : Nat), zR2 μ' μ' t' c' nc' n' (A + 1) → zW p l e room_1 s m #[Value.ref b] below meth c E 7 (cells + 1) (slots + 6) (lw_Z below #[Value.ref b] s) 1405 [some (.ref b), some (.ref (zob E 0)), some (.ref (zob E 7)), some (.ref (zob E 8)), some (.int (nI i)), none, none] [] μ' ov') :
    zW p l e room_1 s m #[Value.ref b] below meth c E 7 cells slots (lw_Z below #[Value.ref b] s) 1048 [some (.ref b), some (.ref (zob E 0)), some (.ref (zob E 7)), some (.ref (zob E 8)), some (.int (nI i)), none, none] [] μ ov := by
  refine z_aloadn (i := 1) (pc := 1048) C dL_law_1048 rfl rfl ?_
  refine z_aloadn (i := 0) (pc := 1049) C dL_law_1049 rfl rfl ?_
  refine z_iload (i := 4) (pc := 1050) C dL_law_1050 rfl ?_
  refine z_iconst (v := 1) (pc := 1052) C dL_law_1052 (by decide) ?_
  refine z_iadd (pc := 1053) C dL_law_1053 ?_
  refine z_sld (pc := 1054) C hX hbl hbA (i + 1) (nI_add i 1) (by omega) hL dL_law_1054 ?_
  refine z_aloadn (i := 3) (pc := 1055) C dL_law_1055 rfl rfl ?_
  refine z_callSWi (pc := 1056) (n := 3) (As := [.ref (zob E 0), .int (xs (i + 1)), .ref (zob E 8)]) (rest := []) C (c_L_open l hfl E sa (μ := μ) (ov := ov) (d := (xs (i + 1))) t c9 nc n h.1) (zwS_g gL_law_L_open) rfl zfV_L_open.2 ⟨(Nat.le_of_ble_eq_true rfl), (Nat.le_of_ble_eq_true rfl)⟩ rfl rfl (Nat.le_of_ble_eq_true rfl) ⟨hc, hs⟩ dL_law_1056 (fun r9 μ9 ov9 hp => ?_)
  obtain ⟨hms, hK⟩ := s_open (d := (xs (i + 1))) h hA hp
  have HM := hms.MI h.2.1
  obtain ⟨M1, M2, M3, M4, M5, M6, M7, M8, M9⟩ := id HM
  refine z_istore5 (pc := 1059) C (by decide) (fun w hw => by cases hw; exact (show ¬ (1 = 2) from by decide)) dL_law_1059 ?_
  refine z_aloadn (i := 2) (pc := 1061) C dL_law_1061 rfl rfl ?_
  refine z_aloadn (i := 0) (pc := 1062) C dL_law_1062 rfl rfl ?_
  refine z_iload (i := 4) (pc := 1063) C dL_law_1063 rfl ?_
  refine z_iconst (v := 1) (pc := 1065) C dL_law_1065 (by decide) ?_
  refine z_iadd (pc := 1066) C dL_law_1066 ?_
  refine z_sld (pc := 1067) C hX hbl hbA (i + 1) (nI_add i 1) (by omega) hL dL_law_1067 ?_
  refine z_callVi (pc := 1068) (n := 1) (As := [.int (xs (i + 1))]) (rest := []) C (c_X5_open l E sa (μ := μ9) (ov := ov9) (d := (xs (i + 1))) t c9 nc n HM) gL_law_X5_open rfl zfV_X5_open ⟨(Nat.le_of_ble_eq_true rfl), (Nat.le_of_ble_eq_true rfl)⟩ rfl (zRec_X5 E) rfl (Nat.le_of_ble_eq_true rfl) ⟨hc, hs⟩ dL_law_1068 (fun r8 μ8 ov8 hq => ?_)
  have ok := hK _ _ _ hq
  refine z_istore6 (pc := 1071) C (by decide) (fun w hw => by cases hw; exact (show ¬ (1 = 2) from by decide)) dL_law_1071 ?_
  refine z_aloadn (i := 2) (pc := 1073) C dL_law_1073 rfl rfl ?_
  refine z_callVi (pc := 1074) (n := 0) (As := []) (rest := []) C (c_X5_thrown l E sa (μ := μ8) (ov := ov8)) gL_law_X5_thrown rfl zfV_X5_thrown ⟨(Nat.le_of_ble_eq_true rfl), (Nat.le_of_ble_eq_true rfl)⟩ rfl (zRec_X5 E) rfl (Nat.le_of_ble_eq_true rfl) ⟨hc, hs⟩ dL_law_1074 (fun r7 μ7 ov7 hv => ?_)
  obtain ⟨v1, v2, v3⟩ := hv
  subst v2 v3
  refine z_iload (i := 5) (pc := 1077) C dL_law_1077 rfl ?_
  refine z_icmp_eq (tgt := 1084) (pc := 1079) C dL_law_1079 (by decide) (fun _ => ?_) (fun c2 => absurd (v1.trans ok.1.symm) c2)
  refine z_iload (i := 5) (pc := 1084) C dL_law_1084 rfl ?_
  have J9 : zW p l e room_1 s m #[Value.ref b] below meth c E 7 (cells + 1) (slots + 6) (lw_Z below #[Value.ref b] s) 1101 [some (.ref b), some (.ref (zob E 0)), some (.ref (zob E 7)), some (.ref (zob E 8)), some (.int (nI i)), some (.int r9), some (.int r8)] [] μ7 ov7 := by
    obtain ⟨t1, d1, nc1, n1, h1⟩ := ok.2.2
    have K2 := K _ ov7 _ _ _ _ h1
    exact z_goto (tgt := 1405) (pc := 1101) C dL_law_1101 (by decide) (z_weak (lv' := [some (.ref b), some (.ref (zob E 0)), some (.ref (zob E 7)), some (.ref (zob E 8)), some (.int (nI i)), none, none]) ⟨rfl, rfl, rfl, rfl, rfl, trivial⟩ K2)
  refine z_if_ne (tgt := 1101) (pc := 1086) C dL_law_1086 (by decide) (fun _ => J9) (fun c3 => ?_)
  have c4 := ok.2.1 c3
  refine z_aloadn (i := 3) (pc := 1089) C dL_law_1089 rfl rfl ?_
  refine z_iconst (v := 0) (pc := 1090) C dL_law_1090 (by decide) ?_
  refine z_lald (pc := 1091) C rfl dL_law_1091 ?_
  refine z_iload (i := 6) (pc := 1092) C dL_law_1092 rfl ?_
  refine z_i2l (pc := 1094) C dL_law_1094 ?_
  refine z_lcmp (pc := 1095) C dL_law_1095 ?_
  exact z_if_eq (tgt := 1101) (pc := 1096) C dL_law_1096 (by decide) (fun _ => J9) (fun c6 => absurd ((lg_cmp_eq _ _).mpr c4) c6)
set_option maxHeartbeats 4000000 in
set_option maxRecDepth 100000 in
theorem law_slips (hfl : l.stackTraces = false) (hL : L ≤ 2560) (hX : va_X b L xs s s.heap) (hbl : b < s.heap.size) (hbA : ¬ zA E s.heap.size b) (C : zC p s m #[Value.ref b] c E sa cL_law 7 RL wsL_law) (h : zR2 μ μ t c9 nc n A) (hA : A < 512) (hi : i + 4 < L) (hc0 : cells ≤ 601024) (hs0 : slots ≤ 7293034) (hc : cells + 1 ≤ 601024) (hs : slots + 6 ≤ 7293034)
    (K : ∀ (μ' : zM) (ov' : Nat → Int64) (t' c' nc' n' : Nat), zR2 μ' μ' t' c' nc' n' (A + 1) → zW p l e room_1 s m #[Value.ref b] below meth c E 7 (cells + 1) (slots + 6) (lw_Z below #[Value.ref b] s) 1405 [some (.ref b), some (.ref (zob E 0)), some (.ref (zob E 7)), some (.ref (zob E 8)), some (.int (nI i)), none, none] [] μ' ov') :
    zW p l e room_1 s m #[Value.ref b] below meth c E 7 cells slots (lw_Z below #[Value.ref b] s) 1104 [some (.ref b), some (.ref (zob E 0)), some (.ref (zob E 7)), some (.ref (zob E 8)), some (.int (nI i)), none, none] [] μ ov := by
  refine z_aloadn (i := 1) (pc := 1104) C dL_law_1104 rfl rfl ?_
  refine z_aloadn (i := 0) (pc := 1105) C dL_law_1105 rfl rfl ?_
  refine z_iload (i := 4) (pc := 1106) C dL_law_1106 rfl ?_
  refine z_iconst (v := 1) (pc := 1108) C dL_law_1108 (by decide) ?_
  refine z_iadd (pc := 1109) C dL_law_1109 ?_
  refine z_sld (pc := 1110) C hX hbl hbA (i + 1) (nI_add i 1) (by omega) hL dL_law_1110 ?_
  refine z_aloadn (i := 3) (pc := 1111) C dL_law_1111 rfl rfl ?_
  refine z_callSWi (pc := 1112) (n := 3) (As := [.ref (zob E 0), .int (xs (i + 1)), .ref (zob E 8)]) (rest := []) C (c_L_slips l hfl E sa (μ := μ) (ov := ov) (d := (xs (i + 1))) t c9 nc n h.1) (zwS_g gL_law_L_slips) rfl zfV_L_slips.2 ⟨(Nat.le_of_ble_eq_true rfl), (Nat.le_of_ble_eq_true rfl)⟩ rfl rfl (Nat.le_of_ble_eq_true rfl) ⟨hc, hs⟩ dL_law_1112 (fun r9 μ9 ov9 hp => ?_)
  obtain ⟨hms, hK⟩ := s_slips (d := (xs (i + 1))) h hA hp
  have HM := hms.MI h.2.1
  obtain ⟨M1, M2, M3, M4, M5, M6, M7, M8, M9⟩ := id HM
  refine z_istore5 (pc := 1115) C (by decide) (fun w hw => by cases hw; exact (show ¬ (1 = 2) from by decide)) dL_law_1115 ?_
  refine z_aloadn (i := 2) (pc := 1117) C dL_law_1117 rfl rfl ?_
  refine z_aloadn (i := 0) (pc := 1118) C dL_law_1118 rfl rfl ?_
  refine z_iload (i := 4) (pc := 1119) C dL_law_1119 rfl ?_
  refine z_iconst (v := 1) (pc := 1121) C dL_law_1121 (by decide) ?_
  refine z_iadd (pc := 1122) C dL_law_1122 ?_
  refine z_sld (pc := 1123) C hX hbl hbA (i + 1) (nI_add i 1) (by omega) hL dL_law_1123 ?_
  refine z_callVi (pc := 1124) (n := 1) (As := [.int (xs (i + 1))]) (rest := []) C (c_X5_slips l E sa (μ := μ9) (ov := ov9) (d := (xs (i + 1))) t c9 nc n HM) gL_law_X5_slips rfl zfV_X5_slips ⟨(Nat.le_of_ble_eq_true rfl), (Nat.le_of_ble_eq_true rfl)⟩ rfl (zRec_X5 E) rfl (Nat.le_of_ble_eq_true rfl) ⟨hc, hs⟩ dL_law_1124 (fun r8 μ8 ov8 hq => ?_)
  have ok := hK _ _ _ hq
  refine z_istore6 (pc := 1127) C (by decide) (fun w hw => by cases hw; exact (show ¬ (1 = 2) from by decide)) dL_law_1127 ?_
  refine z_aloadn (i := 2) (pc := 1129) C dL_law_1129 rfl rfl ?_
  refine z_callVi (pc := 1130) (n := 0) (As := []) (rest := []) C (c_X5_thrown l E sa (μ := μ8) (ov := ov8)) gL_law_X5_thrown rfl zfV_X5_thrown ⟨(Nat.le_of_ble_eq_true rfl), (Nat.le_of_ble_eq_true rfl)⟩ rfl (zRec_X5 E) rfl (Nat.le_of_ble_eq_true rfl) ⟨hc, hs⟩ dL_law_1130 (fun r7 μ7 ov7 hv => ?_)
  obtain ⟨v1, v2, v3⟩ := hv
  subst v2 v3
  refine z_iload (i := 5) (pc := 1133) C dL_law_1133 rfl ?_
  refine z_icmp_eq (tgt := 1140) (pc := 1135) C dL_law_1135 (by decide) (fun _ => ?_) (fun c2 => absurd (v1.trans ok.1.symm) c2)
  refine z_iload (i := 5) (pc := 1140) C dL_law_1140 rfl ?_
  have J9 : zW p l e room_1 s m #[Value.ref b] below meth c E 7 (cells + 1) (slots + 6) (lw_Z below #[Value.ref b] s) 1157 [some (.ref b), some (.ref (zob E 0)), some (.ref (zob E 7)), some (.ref (zob E 8)), some (.int (nI i)), some (.int r9), some (.int r8)] [] μ7 ov7 := by
    obtain ⟨t1, d1, nc1, n1, h1⟩ := ok.2.2
    have K2 := K _ ov7 _ _ _ _ h1
    exact z_goto (tgt := 1405) (pc := 1157) C dL_law_1157 (by decide) (z_weak (lv' := [some (.ref b), some (.ref (zob E 0)), some (.ref (zob E 7)), some (.ref (zob E 8)), some (.int (nI i)), none, none]) ⟨rfl, rfl, rfl, rfl, rfl, trivial⟩ K2)
  refine z_if_ne (tgt := 1157) (pc := 1142) C dL_law_1142 (by decide) (fun _ => J9) (fun c3 => ?_)
  have c4 := ok.2.1 c3
  refine z_aloadn (i := 3) (pc := 1145) C dL_law_1145 rfl rfl ?_
  refine z_iconst (v := 0) (pc := 1146) C dL_law_1146 (by decide) ?_
  refine z_lald (pc := 1147) C rfl dL_law_1147 ?_
  refine z_iload (i := 6) (pc := 1148) C dL_law_1148 rfl ?_
  refine z_i2l (pc := 1150) C dL_law_1150 ?_
  refine z_lcmp (pc := 1151) C dL_law_1151 ?_
  exact z_if_eq (tgt := 1157) (pc := 1152) C dL_law_1152 (by decide) (fun _ => J9) (fun c6 => absurd ((lg_cmp_eq _ _).mpr c4) c6)
set_option maxHeartbeats 4000000 in
set_option maxRecDepth 100000 in
theorem law_mean (hfl : l.stackTraces = false) (hL : L ≤ 2560) (hX : va_X b L xs s s.heap) (hbl : b < s.heap.size) (hbA : ¬ zA E s.heap.size b) (C : zC p s m #[Value.ref b] c E sa cL_law 7 RL wsL_law) (h : zR2 μ μ t c9 nc n A) (hA : A < 512) (hi : i + 4 < L) (hc0 : cells ≤ 601024) (hs0 : slots ≤ 7293034) (hc : cells + 1 ≤ 601024) (hs : slots + 6 ≤ 7293034)
    (K : ∀ (μ' : zM) (ov' : Nat → Int64) (t' c' nc' n' : Nat), zR2 μ' μ' t' c' nc' n' (A + 1) → zW p l e room_1 s m #[Value.ref b] below meth c E 7 (cells + 1) (slots + 6) (lw_Z below #[Value.ref b] s) 1405 [some (.ref b), some (.ref (zob E 0)), some (.ref (zob E 7)), some (.ref (zob E 8)), some (.int (nI i)), none, none] [] μ' ov') :
    zW p l e room_1 s m #[Value.ref b] below meth c E 7 cells slots (lw_Z below #[Value.ref b] s) 1160 [some (.ref b), some (.ref (zob E 0)), some (.ref (zob E 7)), some (.ref (zob E 8)), some (.int (nI i)), none, none] [] μ ov := by
  refine z_aloadn (i := 1) (pc := 1160) C dL_law_1160 rfl rfl ?_
  refine z_aloadn (i := 0) (pc := 1161) C dL_law_1161 rfl rfl ?_
  refine z_iload (i := 4) (pc := 1162) C dL_law_1162 rfl ?_
  refine z_iconst (v := 1) (pc := 1164) C dL_law_1164 (by decide) ?_
  refine z_iadd (pc := 1165) C dL_law_1165 ?_
  refine z_sld (pc := 1166) C hX hbl hbA (i + 1) (nI_add i 1) (by omega) hL dL_law_1166 ?_
  refine z_aloadn (i := 3) (pc := 1167) C dL_law_1167 rfl rfl ?_
  refine z_callSWi (pc := 1168) (n := 3) (As := [.ref (zob E 0), .int (xs (i + 1)), .ref (zob E 8)]) (rest := []) C (c_L_mean l hfl E sa (μ := μ) (ov := ov) (d := (xs (i + 1))) t c9 nc n h.1) (zwS_g gL_law_L_mean) rfl zfV_L_mean.2 ⟨(Nat.le_of_ble_eq_true rfl), (Nat.le_of_ble_eq_true rfl)⟩ rfl rfl (Nat.le_of_ble_eq_true rfl) ⟨hc, hs⟩ dL_law_1168 (fun r9 μ9 ov9 hp => ?_)
  obtain ⟨hms, hK⟩ := s_mean (d := (xs (i + 1))) h hA hp
  have HM := hms.MI h.2.1
  obtain ⟨M1, M2, M3, M4, M5, M6, M7, M8, M9⟩ := id HM
  refine z_istore5 (pc := 1171) C (by decide) (fun w hw => by cases hw; exact (show ¬ (1 = 2) from by decide)) dL_law_1171 ?_
  refine z_aloadn (i := 2) (pc := 1173) C dL_law_1173 rfl rfl ?_
  refine z_aloadn (i := 0) (pc := 1174) C dL_law_1174 rfl rfl ?_
  refine z_iload (i := 4) (pc := 1175) C dL_law_1175 rfl ?_
  refine z_iconst (v := 1) (pc := 1177) C dL_law_1177 (by decide) ?_
  refine z_iadd (pc := 1178) C dL_law_1178 ?_
  refine z_sld (pc := 1179) C hX hbl hbA (i + 1) (nI_add i 1) (by omega) hL dL_law_1179 ?_
  refine z_callVi (pc := 1180) (n := 1) (As := [.int (xs (i + 1))]) (rest := []) C (c_X5_mean l E sa (μ := μ9) (ov := ov9) (d := (xs (i + 1))) t c9 nc n HM) gL_law_X5_mean rfl zfV_X5_mean ⟨(Nat.le_of_ble_eq_true rfl), (Nat.le_of_ble_eq_true rfl)⟩ rfl (zRec_X5 E) rfl (Nat.le_of_ble_eq_true rfl) ⟨hc, hs⟩ dL_law_1180 (fun r8 μ8 ov8 hq => ?_)
  have ok := hK _ _ _ hq
  refine z_istore6 (pc := 1183) C (by decide) (fun w hw => by cases hw; exact (show ¬ (1 = 2) from by decide)) dL_law_1183 ?_
  refine z_aloadn (i := 2) (pc := 1185) C dL_law_1185 rfl rfl ?_
  refine z_callVi (pc := 1186) (n := 0) (As := []) (rest := []) C (c_X5_thrown l E sa (μ := μ8) (ov := ov8)) gL_law_X5_thrown rfl zfV_X5_thrown ⟨(Nat.le_of_ble_eq_true rfl), (Nat.le_of_ble_eq_true rfl)⟩ rfl (zRec_X5 E) rfl (Nat.le_of_ble_eq_true rfl) ⟨hc, hs⟩ dL_law_1186 (fun r7 μ7 ov7 hv => ?_)
  obtain ⟨v1, v2, v3⟩ := hv
  subst v2 v3
  refine z_iload (i := 5) (pc := 1189) C dL_law_1189 rfl ?_
  refine z_icmp_eq (tgt := 1196) (pc := 1191) C dL_law_1191 (by decide) (fun _ => ?_) (fun c2 => absurd (v1.trans ok.1.symm) c2)
  refine z_iload (i := 5) (pc := 1196) C dL_law_1196 rfl ?_
  have J9 : zW p l e room_1 s m #[Value.ref b] below meth c E 7 (cells + 1) (slots + 6) (lw_Z below #[Value.ref b] s) 1213 [some (.ref b), some (.ref (zob E 0)), some (.ref (zob E 7)), some (.ref (zob E 8)), some (.int (nI i)), some (.int r9), some (.int r8)] [] μ7 ov7 := by
    obtain ⟨t1, d1, nc1, n1, h1⟩ := ok.2.2
    have K2 := K _ ov7 _ _ _ _ h1
    exact z_goto (tgt := 1405) (pc := 1213) C dL_law_1213 (by decide) (z_weak (lv' := [some (.ref b), some (.ref (zob E 0)), some (.ref (zob E 7)), some (.ref (zob E 8)), some (.int (nI i)), none, none]) ⟨rfl, rfl, rfl, rfl, rfl, trivial⟩ K2)
  refine z_if_ne (tgt := 1213) (pc := 1198) C dL_law_1198 (by decide) (fun _ => J9) (fun c3 => ?_)
  have c4 := ok.2.1 c3
  refine z_aloadn (i := 3) (pc := 1201) C dL_law_1201 rfl rfl ?_
  refine z_iconst (v := 0) (pc := 1202) C dL_law_1202 (by decide) ?_
  refine z_lald (pc := 1203) C rfl dL_law_1203 ?_
  refine z_iload (i := 6) (pc := 1204) C dL_law_1204 rfl ?_
  refine z_i2l (pc := 1206) C dL_law_1206 ?_
  refine z_lcmp (pc := 1207) C dL_law_1207 ?_
  exact z_if_eq (tgt := 1213) (pc := 1208) C dL_law_1208 (by decide) (fun _ => J9) (fun c6 => absurd ((lg_cmp_eq _ _).mpr c4) c6)
set_option maxHeartbeats 4000000 in
set_option maxRecDepth 100000 in
theorem law_published (hfl : l.stackTraces = false) (hL : L ≤ 2560) (hX : va_X b L xs s s.heap) (hbl : b < s.heap.size) (hbA : ¬ zA E s.heap.size b) (C : zC p s m #[Value.ref b] c E sa cL_law 7 RL wsL_law) (h : zR2 μ μ t c9 nc n A) (hA : A < 512) (hi : i + 4 < L) (hc0 : cells ≤ 601024) (hs0 : slots ≤ 7293034) (hc : cells + 1 ≤ 601024) (hs : slots + 6 ≤ 7293034)
    (K : ∀ (μ' : zM) (ov' : Nat → Int64) (t' c' nc' n' : Nat), zR2 μ' μ' t' c' nc' n' (A + 1) → zW p l e room_1 s m #[Value.ref b] below meth c E 7 (cells + 1) (slots + 6) (lw_Z below #[Value.ref b] s) 1405 [some (.ref b), some (.ref (zob E 0)), some (.ref (zob E 7)), some (.ref (zob E 8)), some (.int (nI i)), none, none] [] μ' ov') :
    zW p l e room_1 s m #[Value.ref b] below meth c E 7 cells slots (lw_Z below #[Value.ref b] s) 1216 [some (.ref b), some (.ref (zob E 0)), some (.ref (zob E 7)), some (.ref (zob E 8)), some (.int (nI i)), none, none] [] μ ov := by
  refine z_aloadn (i := 1) (pc := 1216) C dL_law_1216 rfl rfl ?_
  refine z_aloadn (i := 0) (pc := 1217) C dL_law_1217 rfl rfl ?_
  refine z_iload (i := 4) (pc := 1218) C dL_law_1218 rfl ?_
  refine z_iconst (v := 1) (pc := 1220) C dL_law_1220 (by decide) ?_
  refine z_iadd (pc := 1221) C dL_law_1221 ?_
  refine z_sld (pc := 1222) C hX hbl hbA (i + 1) (nI_add i 1) (by omega) hL dL_law_1222 ?_
  refine z_aloadn (i := 0) (pc := 1223) C dL_law_1223 rfl rfl ?_
  refine z_iload (i := 4) (pc := 1224) C dL_law_1224 rfl ?_
  refine z_iconst (v := 2) (pc := 1226) C dL_law_1226 (by decide) ?_
  refine z_iadd (pc := 1227) C dL_law_1227 ?_
  refine z_sld (pc := 1228) C hX hbl hbA (i + 2) (nI_add i 2) (by omega) hL dL_law_1228 ?_
  have J1 : zW p l e room_1 s m #[Value.ref b] below meth c E 7 cells slots (lw_Z below #[Value.ref b] s) 1237 [some (.ref b), some (.ref (zob E 0)), some (.ref (zob E 7)), some (.ref (zob E 8)), some (.int (nI i)), none, none] [.int (zb (¬ xs (i + 2) = 0)), .int (xs (i + 1)), .ref (zob E 0)] μ ov := by
    refine z_aloadn (i := 3) (pc := 1237) C dL_law_1237 rfl rfl ?_
    refine z_callSWi (pc := 1238) (n := 4) (As := [.ref (zob E 0), .int (xs (i + 1)), .int (zb (¬ xs (i + 2) = 0)), .ref (zob E 8)]) (rest := []) C (c_L_published l hfl E sa (μ := μ) (ov := ov) (d := (xs (i + 1))) (b := (zb (¬ xs (i + 2) = 0))) t c9 nc n h.1) (zwS_g gL_law_L_published) rfl zfV_L_published.2 ⟨(Nat.le_of_ble_eq_true rfl), (Nat.le_of_ble_eq_true rfl)⟩ rfl rfl (Nat.le_of_ble_eq_true rfl) ⟨hc, hs⟩ dL_law_1238 (fun r9 μ9 ov9 hp => ?_)
    obtain ⟨hms, hK⟩ := s_published (d := (xs (i + 1))) (b := (zb (¬ xs (i + 2) = 0))) h hA hp
    have HM := hms.MI h.2.1
    obtain ⟨M1, M2, M3, M4, M5, M6, M7, M8, M9⟩ := id HM
    refine z_istore5 (pc := 1241) C (by decide) (fun w hw => by cases hw; exact (show ¬ (1 = 2) from by decide)) dL_law_1241 ?_
    refine z_aloadn (i := 2) (pc := 1243) C dL_law_1243 rfl rfl ?_
    refine z_aloadn (i := 0) (pc := 1244) C dL_law_1244 rfl rfl ?_
    refine z_iload (i := 4) (pc := 1245) C dL_law_1245 rfl ?_
    refine z_iconst (v := 1) (pc := 1247) C dL_law_1247 (by decide) ?_
    refine z_iadd (pc := 1248) C dL_law_1248 ?_
    refine z_sld (pc := 1249) C hX hbl hbA (i + 1) (nI_add i 1) (by omega) hL dL_law_1249 ?_
    refine z_aloadn (i := 0) (pc := 1250) C dL_law_1250 rfl rfl ?_
    refine z_iload (i := 4) (pc := 1251) C dL_law_1251 rfl ?_
    refine z_iconst (v := 2) (pc := 1253) C dL_law_1253 (by decide) ?_
    refine z_iadd (pc := 1254) C dL_law_1254 ?_
    refine z_sld (pc := 1255) C hX hbl hbA (i + 2) (nI_add i 2) (by omega) hL dL_law_1255 ?_
    have J2 : zW p l e room_1 s m #[Value.ref b] below meth c E 7 (cells + 1) (slots + 6) (lw_Z below #[Value.ref b] s) 1264 [some (.ref b), some (.ref (zob E 0)), some (.ref (zob E 7)), some (.ref (zob E 8)), some (.int (nI i)), some (.int r9), none] [.int (zb (¬ xs (i + 2) = 0)), .int (xs (i + 1)), .ref (zob E 7)] μ9 ov9 := by
      refine z_callVi (pc := 1264) (n := 2) (As := [.int (xs (i + 1)), .int (zb (¬ xs (i + 2) = 0))]) (rest := []) C (c_X5_published l E sa (μ := μ9) (ov := ov9) (d := (xs (i + 1))) (b := (zb (¬ xs (i + 2) = 0))) t c9 nc n HM) gL_law_X5_published rfl zfV_X5_published ⟨(Nat.le_of_ble_eq_true rfl), (Nat.le_of_ble_eq_true rfl)⟩ rfl (zRec_X5 E) rfl (Nat.le_of_ble_eq_true rfl) ⟨hc, hs⟩ dL_law_1264 (fun r8 μ8 ov8 hq => ?_)
      have ok := hK _ _ _ hq
      refine z_istore6 (pc := 1267) C (by decide) (fun w hw => by cases hw; exact (show ¬ (1 = 2) from by decide)) dL_law_1267 ?_
      refine z_aloadn (i := 2) (pc := 1269) C dL_law_1269 rfl rfl ?_
      refine z_callVi (pc := 1270) (n := 0) (As := []) (rest := []) C (c_X5_thrown l E sa (μ := μ8) (ov := ov8)) gL_law_X5_thrown rfl zfV_X5_thrown ⟨(Nat.le_of_ble_eq_true rfl), (Nat.le_of_ble_eq_true rfl)⟩ rfl (zRec_X5 E) rfl (Nat.le_of_ble_eq_true rfl) ⟨hc, hs⟩ dL_law_1270 (fun r7 μ7 ov7 hv => ?_)
      obtain ⟨v1, v2, v3⟩ := hv
      subst v2 v3
      refine z_iload (i := 5) (pc := 1273) C dL_law_1273 rfl ?_
      refine z_icmp_eq (tgt := 1280) (pc := 1275) C dL_law_1275 (by decide) (fun _ => ?_) (fun c2 => absurd (v1.trans ok.1.symm) c2)
      refine z_iload (i := 5) (pc := 1280) C dL_law_1280 rfl ?_
      have J9 : zW p l e room_1 s m #[Value.ref b] below meth c E 7 (cells + 1) (slots + 6) (lw_Z below #[Value.ref b] s) 1297 [some (.ref b), some (.ref (zob E 0)), some (.ref (zob E 7)), some (.ref (zob E 8)), some (.int (nI i)), some (.int r9), some (.int r8)] [] μ7 ov7 := by
        obtain ⟨t1, d1, nc1, n1, h1⟩ := ok.2.2
        have K2 := K _ ov7 _ _ _ _ h1
        exact z_goto (tgt := 1405) (pc := 1297) C dL_law_1297 (by decide) (z_weak (lv' := [some (.ref b), some (.ref (zob E 0)), some (.ref (zob E 7)), some (.ref (zob E 8)), some (.int (nI i)), none, none]) ⟨rfl, rfl, rfl, rfl, rfl, trivial⟩ K2)
      refine z_if_ne (tgt := 1297) (pc := 1282) C dL_law_1282 (by decide) (fun _ => J9) (fun c3 => ?_)
      have c4 := ok.2.1 c3
      refine z_aloadn (i := 3) (pc := 1285) C dL_law_1285 rfl rfl ?_
      refine z_iconst (v := 0) (pc := 1286) C dL_law_1286 (by decide) ?_
      refine z_lald (pc := 1287) C rfl dL_law_1287 ?_
      refine z_iload (i := 6) (pc := 1288) C dL_law_1288 rfl ?_
      refine z_i2l (pc := 1290) C dL_law_1290 ?_
      refine z_lcmp (pc := 1291) C dL_law_1291 ?_
      exact z_if_eq (tgt := 1297) (pc := 1292) C dL_law_1292 (by decide) (fun _ => J9) (fun c6 => absurd ((lg_cmp_eq _ _).mpr c4) c6)
    refine z_if_eq (tgt := 1263) (pc := 1256) C dL_law_1256 (by decide) (fun c1 => ?_) (fun c1 => ?_)
    · refine z_iconst (v := 0) (pc := 1263) C dL_law_1263 (by decide) ?_
      exact z_topi (y := zb (¬ xs (i + 2) = 0)) (zb_f (fun z => z c1)).symm J2
    · refine z_iconst (v := 1) (pc := 1259) C dL_law_1259 (by decide) ?_
      refine z_goto (tgt := 1264) (pc := 1260) C dL_law_1260 (by decide) ?_
      exact z_topi (y := zb (¬ xs (i + 2) = 0)) (zb_t c1).symm J2
  refine z_if_eq (tgt := 1236) (pc := 1229) C dL_law_1229 (by decide) (fun c1 => ?_) (fun c1 => ?_)
  · refine z_iconst (v := 0) (pc := 1236) C dL_law_1236 (by decide) ?_
    exact z_topi (y := zb (¬ xs (i + 2) = 0)) (zb_f (fun z => z c1)).symm J1
  · refine z_iconst (v := 1) (pc := 1232) C dL_law_1232 (by decide) ?_
    refine z_goto (tgt := 1237) (pc := 1233) C dL_law_1233 (by decide) ?_
    exact z_topi (y := zb (¬ xs (i + 2) = 0)) (zb_t c1).symm J1
set_option maxHeartbeats 4000000 in
set_option maxRecDepth 100000 in
theorem law_height (hfl : l.stackTraces = false) (hL : L ≤ 2560) (hX : va_X b L xs s s.heap) (hbl : b < s.heap.size) (hbA : ¬ zA E s.heap.size b) (C : zC p s m #[Value.ref b] c E sa cL_law 7 RL wsL_law) (h : zR2 μ μ t c9 nc n A) (hA : A < 512) (hi : i + 4 < L) (hc0 : cells ≤ 601024) (hs0 : slots ≤ 7293034) (hc : cells + 1 ≤ 601024) (hs : slots + 6 ≤ 7293034)
    (K : ∀ (μ' : zM) (ov' : Nat → Int64) (t' c' nc' n' : Nat), zR2 μ' μ' t' c' nc' n' (A + 1) → zW p l e room_1 s m #[Value.ref b] below meth c E 7 (cells + 1) (slots + 6) (lw_Z below #[Value.ref b] s) 1405 [some (.ref b), some (.ref (zob E 0)), some (.ref (zob E 7)), some (.ref (zob E 8)), some (.int (nI i)), none, none] [] μ' ov') :
    zW p l e room_1 s m #[Value.ref b] below meth c E 7 cells slots (lw_Z below #[Value.ref b] s) 1300 [some (.ref b), some (.ref (zob E 0)), some (.ref (zob E 7)), some (.ref (zob E 8)), some (.int (nI i)), none, none] [] μ ov := by
  refine z_aloadn (i := 1) (pc := 1300) C dL_law_1300 rfl rfl ?_
  refine z_aloadn (i := 0) (pc := 1301) C dL_law_1301 rfl rfl ?_
  refine z_iload (i := 4) (pc := 1302) C dL_law_1302 rfl ?_
  refine z_iconst (v := 1) (pc := 1304) C dL_law_1304 (by decide) ?_
  refine z_iadd (pc := 1305) C dL_law_1305 ?_
  refine z_sld (pc := 1306) C hX hbl hbA (i + 1) (nI_add i 1) (by omega) hL dL_law_1306 ?_
  refine z_aloadn (i := 0) (pc := 1307) C dL_law_1307 rfl rfl ?_
  refine z_iload (i := 4) (pc := 1308) C dL_law_1308 rfl ?_
  refine z_iconst (v := 2) (pc := 1310) C dL_law_1310 (by decide) ?_
  refine z_iadd (pc := 1311) C dL_law_1311 ?_
  refine z_sld (pc := 1312) C hX hbl hbA (i + 2) (nI_add i 2) (by omega) hL dL_law_1312 ?_
  refine z_aloadn (i := 0) (pc := 1313) C dL_law_1313 rfl rfl ?_
  refine z_iload (i := 4) (pc := 1314) C dL_law_1314 rfl ?_
  refine z_iconst (v := 3) (pc := 1316) C dL_law_1316 (by decide) ?_
  refine z_iadd (pc := 1317) C dL_law_1317 ?_
  refine z_sld (pc := 1318) C hX hbl hbA (i + 3) (nI_add i 3) (by omega) hL dL_law_1318 ?_
  refine z_aloadn (i := 0) (pc := 1319) C dL_law_1319 rfl rfl ?_
  refine z_iload (i := 4) (pc := 1320) C dL_law_1320 rfl ?_
  refine z_iconst (v := 4) (pc := 1322) C dL_law_1322 (by decide) ?_
  refine z_iadd (pc := 1323) C dL_law_1323 ?_
  refine z_sld (pc := 1324) C hX hbl hbA (i + 4) (nI_add i 4) (by omega) hL dL_law_1324 ?_
  refine z_aloadn (i := 3) (pc := 1325) C dL_law_1325 rfl rfl ?_
  refine z_callSWi (pc := 1326) (n := 6) (As := [.ref (zob E 0), .int (xs (i + 1)), .int (xs (i + 2)), .int (xs (i + 3)), .int (xs (i + 4)), .ref (zob E 8)]) (rest := []) C (c_L_height l hfl E sa (μ := μ) (ov := ov) (i := (xs (i + 1))) (f := (xs (i + 2))) (g := (xs (i + 3))) (w := (xs (i + 4))) t c9 nc n h.1) (zwS_g gL_law_L_height) rfl zfV_L_height.2 ⟨(Nat.le_of_ble_eq_true rfl), (Nat.le_of_ble_eq_true rfl)⟩ rfl rfl (Nat.le_of_ble_eq_true rfl) ⟨hc, hs⟩ dL_law_1326 (fun r9 μ9 ov9 hp => ?_)
  obtain ⟨hms, hK⟩ := s_height (i := (xs (i + 1))) (f := (xs (i + 2))) (g := (xs (i + 3))) (w := (xs (i + 4))) h hA hp
  have HM := hms.MI h.2.1
  obtain ⟨M1, M2, M3, M4, M5, M6, M7, M8, M9⟩ := id HM
  refine z_istore5 (pc := 1329) C (by decide) (fun w hw => by cases hw; exact (show ¬ (1 = 2) from by decide)) dL_law_1329 ?_
  refine z_aloadn (i := 2) (pc := 1331) C dL_law_1331 rfl rfl ?_
  refine z_aloadn (i := 0) (pc := 1332) C dL_law_1332 rfl rfl ?_
  refine z_iload (i := 4) (pc := 1333) C dL_law_1333 rfl ?_
  refine z_iconst (v := 1) (pc := 1335) C dL_law_1335 (by decide) ?_
  refine z_iadd (pc := 1336) C dL_law_1336 ?_
  refine z_sld (pc := 1337) C hX hbl hbA (i + 1) (nI_add i 1) (by omega) hL dL_law_1337 ?_
  refine z_aloadn (i := 0) (pc := 1338) C dL_law_1338 rfl rfl ?_
  refine z_iload (i := 4) (pc := 1339) C dL_law_1339 rfl ?_
  refine z_iconst (v := 2) (pc := 1341) C dL_law_1341 (by decide) ?_
  refine z_iadd (pc := 1342) C dL_law_1342 ?_
  refine z_sld (pc := 1343) C hX hbl hbA (i + 2) (nI_add i 2) (by omega) hL dL_law_1343 ?_
  refine z_aloadn (i := 0) (pc := 1344) C dL_law_1344 rfl rfl ?_
  refine z_iload (i := 4) (pc := 1345) C dL_law_1345 rfl ?_
  refine z_iconst (v := 3) (pc := 1347) C dL_law_1347 (by decide) ?_
  refine z_iadd (pc := 1348) C dL_law_1348 ?_
  refine z_sld (pc := 1349) C hX hbl hbA (i + 3) (nI_add i 3) (by omega) hL dL_law_1349 ?_
  refine z_aloadn (i := 0) (pc := 1350) C dL_law_1350 rfl rfl ?_
  refine z_iload (i := 4) (pc := 1351) C dL_law_1351 rfl ?_
  refine z_iconst (v := 4) (pc := 1353) C dL_law_1353 (by decide) ?_
  refine z_iadd (pc := 1354) C dL_law_1354 ?_
  refine z_sld (pc := 1355) C hX hbl hbA (i + 4) (nI_add i 4) (by omega) hL dL_law_1355 ?_
  refine z_callVi (pc := 1356) (n := 4) (As := [.int (xs (i + 1)), .int (xs (i + 2)), .int (xs (i + 3)), .int (xs (i + 4))]) (rest := []) C (c_X5_height l E sa (μ := μ9) (ov := ov9) (i := (xs (i + 1))) (f := (xs (i + 2))) (g := (xs (i + 3))) (w := (xs (i + 4))) t c9 nc n HM) gL_law_X5_height rfl zfV_X5_height ⟨(Nat.le_of_ble_eq_true rfl), (Nat.le_of_ble_eq_true rfl)⟩ rfl (zRec_X5 E) rfl (Nat.le_of_ble_eq_true rfl) ⟨hc, hs⟩ dL_law_1356 (fun r8 μ8 ov8 hq => ?_)
  have ok := hK _ _ _ hq
  refine z_istore6 (pc := 1359) C (by decide) (fun w hw => by cases hw; exact (show ¬ (1 = 2) from by decide)) dL_law_1359 ?_
  refine z_aloadn (i := 2) (pc := 1361) C dL_law_1361 rfl rfl ?_
  refine z_callVi (pc := 1362) (n := 0) (As := []) (rest := []) C (c_X5_thrown l E sa (μ := μ8) (ov := ov8)) gL_law_X5_thrown rfl zfV_X5_thrown ⟨(Nat.le_of_ble_eq_true rfl), (Nat.le_of_ble_eq_true rfl)⟩ rfl (zRec_X5 E) rfl (Nat.le_of_ble_eq_true rfl) ⟨hc, hs⟩ dL_law_1362 (fun r7 μ7 ov7 hv => ?_)
  obtain ⟨v1, v2, v3⟩ := hv
  subst v2 v3
  refine z_iload (i := 5) (pc := 1365) C dL_law_1365 rfl ?_
  refine z_icmp_eq (tgt := 1372) (pc := 1367) C dL_law_1367 (by decide) (fun _ => ?_) (fun c2 => absurd (v1.trans ok.1.symm) c2)
  refine z_iload (i := 5) (pc := 1372) C dL_law_1372 rfl ?_
  have J9 : zW p l e room_1 s m #[Value.ref b] below meth c E 7 (cells + 1) (slots + 6) (lw_Z below #[Value.ref b] s) 1389 [some (.ref b), some (.ref (zob E 0)), some (.ref (zob E 7)), some (.ref (zob E 8)), some (.int (nI i)), some (.int r9), some (.int r8)] [] μ7 ov7 := by
    obtain ⟨t1, d1, nc1, n1, h1⟩ := ok.2.2
    have K2 := K _ ov7 _ _ _ _ h1
    exact z_goto (tgt := 1405) (pc := 1389) C dL_law_1389 (by decide) (z_weak (lv' := [some (.ref b), some (.ref (zob E 0)), some (.ref (zob E 7)), some (.ref (zob E 8)), some (.int (nI i)), none, none]) ⟨rfl, rfl, rfl, rfl, rfl, trivial⟩ K2)
  refine z_if_ne (tgt := 1389) (pc := 1374) C dL_law_1374 (by decide) (fun _ => J9) (fun c3 => ?_)
  have c4 := ok.2.1 c3
  refine z_aloadn (i := 3) (pc := 1377) C dL_law_1377 rfl rfl ?_
  refine z_iconst (v := 0) (pc := 1378) C dL_law_1378 (by decide) ?_
  refine z_lald (pc := 1379) C rfl dL_law_1379 ?_
  refine z_iload (i := 6) (pc := 1380) C dL_law_1380 rfl ?_
  refine z_i2l (pc := 1382) C dL_law_1382 ?_
  refine z_lcmp (pc := 1383) C dL_law_1383 ?_
  exact z_if_eq (tgt := 1389) (pc := 1384) C dL_law_1384 (by decide) (fun _ => J9) (fun c6 => absurd ((lg_cmp_eq _ _).mpr c4) c6)
set_option maxHeartbeats 4000000 in
set_option maxRecDepth 100000 in
theorem law_events (hfl : l.stackTraces = false) (hL : L ≤ 2560) (hX : va_X b L xs s s.heap) (hbl : b < s.heap.size) (hbA : ¬ zA E s.heap.size b) (C : zC p s m #[Value.ref b] c E sa cL_law 7 RL wsL_law) (h : zR2 μ μ t c9 nc n A) (hA : A < 512) (hi : i + 4 < L) (hc0 : cells ≤ 601024) (hs0 : slots ≤ 7293034) (hc : cells + 1 ≤ 601024) (hs : slots + 6 ≤ 7293034)
    (K : ∀ (μ' : zM) (ov' : Nat → Int64) (t' c' nc' n' : Nat), zR2 μ' μ' t' c' nc' n' (A + 1) → zW p l e room_1 s m #[Value.ref b] below meth c E 7 (cells + 1) (slots + 6) (lw_Z below #[Value.ref b] s) 1405 [some (.ref b), some (.ref (zob E 0)), some (.ref (zob E 7)), some (.ref (zob E 8)), some (.int (nI i)), none, none] [] μ' ov') :
    zW p l e room_1 s m #[Value.ref b] below meth c E 7 cells slots (lw_Z below #[Value.ref b] s) 1392 [some (.ref b), some (.ref (zob E 0)), some (.ref (zob E 7)), some (.ref (zob E 8)), some (.int (nI i)), none, none] [] μ ov := by
  refine z_aloadn (i := 1) (pc := 1392) C dL_law_1392 rfl rfl ?_
  refine z_callVi (pc := 1393) (n := 0) (As := []) (rest := []) C (c_X4_events l E sa (μ := μ) (ov := ov)) gL_law_X4_events rfl zfV_X4_events ⟨(Nat.le_of_ble_eq_true rfl), (Nat.le_of_ble_eq_true rfl)⟩ rfl (zRec_X4 E) rfl (Nat.le_of_ble_eq_true rfl) ⟨hc0, hs0⟩ dL_law_1393 (fun r9 μ9 ov9 hp => ?_)
  obtain ⟨u1, u2, u3⟩ := hp
  subst u2 u3
  refine z_aloadn (i := 2) (pc := 1396) C dL_law_1396 rfl rfl ?_
  refine z_callVi (pc := 1397) (n := 0) (As := []) (rest := [.int r9]) C (c_X5_events l E sa (μ := μ9) (ov := ov9)) gL_law_X5_events rfl zfV_X5_events ⟨(Nat.le_of_ble_eq_true rfl), (Nat.le_of_ble_eq_true rfl)⟩ rfl (zRec_X5 E) rfl (Nat.le_of_ble_eq_true rfl) ⟨hc0, hs0⟩ dL_law_1397 (fun r8 μ8 ov8 hq => ?_)
  obtain ⟨v1, v2, v3⟩ := hq
  refine z_icmp_eq (tgt := 1405) (pc := 1400) C dL_law_1400 (by decide) (fun _ => ?_) (fun c2 => absurd (u1.trans (h.today.2.trans v1.symm)) c2)
  subst v2 v3
  have K2 := K _ ov8 _ _ _ _ (h.th hA 0)
  exact (z_widen (by omega) (by omega) K2)
end
