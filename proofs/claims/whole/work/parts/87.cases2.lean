/-! ===== the law: its cases ===== -/
section LC2
variable {K : jK} {A : Nat → Prop} {E : jE} {b L : Nat} {xs : Nat → Int32} {x : Nat} {c : FcV} {v : MdV} {G : GH} {hs cells slots i : Nat}
set_option maxRecDepth 100000 in
set_option maxHeartbeats 4000000 in
theorem law_receive (hE : jC K A E RL cL_law 9 12 438 601024 7293034) (hZ : jScr A E b L xs) (hL : L ≤ 2560) (hi : i + 5 ≤ L) (hR : RelV c v) (hw : lwOk K G x c v) (hc9 : cells + 4 ≤ 601024) (hs9 : slots + 24 ≤ 7293034) (nx : lwN K A E b x cells slots i) : J K A E 9 G hs cells slots 823 (lwL b x i) [] := by
  obtain ⟨kk, bb, c2, v2, hkk, hR2, hth, hH, hM⟩ := OP_receive (K := K) (x := x) hR (xs (i + 1))
  dsimp only at hH hM
  refine j_aload_n hE (i := 1) dL_law_823 rfl rfl ?_
  refine j_aload_n hE (i := 0) dL_law_824 rfl rfl ?_
  refine j_iload hE dL_law_825 rfl ?_
  refine j_iconst hE (v := nI 1) dL_law_827 (by decide) ?_
  refine j_iaddN hE dL_law_828 ?_
  refine j_sld hE hZ rfl (by omega) hL dL_law_829 ?_
  refine j_aload_n hE (i := 3) dL_law_830 rfl rfl ?_
  refine j_cSWi hE swL_133 (fun l hl => hH l hl G hs hw) rfl rfl (Nat.le_of_ble_eq_true rfl) (by decide) (by decide) (by omega) (by omega) dL_law_831 (fun r G1 hs1 hp => ?_)
  obtain ⟨rfl, hw1, f, hf, hf0⟩ := hp
  refine j_ist6 hE dL_law_834 (by decide) rfl ?_
  refine j_aload_n hE (i := 2) dL_law_836 rfl rfl ?_
  refine j_aload_n hE (i := 0) dL_law_837 rfl rfl ?_
  refine j_iload hE dL_law_838 rfl ?_
  refine j_iconst hE (v := nI 1) dL_law_840 (by decide) ?_
  refine j_iaddN hE dL_law_841 ?_
  refine j_sld hE hZ rfl (by omega) hL dL_law_842 ?_
  refine j_cVi hE mlL_135 hw1.m0 (fun l hl => hM l hl G1 hs1 hw1) rfl rfl (Nat.le_of_ble_eq_true rfl) (by decide) (by decide) (by omega) (by omega) dL_law_843 (fun r2 G2 hs2 hp2 => ?_) (fun _ _ h => h.elim)
  obtain ⟨e2, e3⟩ := hp2
  subst e2
  obtain ⟨hw2, e233, e234⟩ := hw1.md e3
  refine j_ist7 hE dL_law_846 (by decide) rfl ?_
  refine j_aload_n hE (i := 2) dL_law_848 rfl rfl ?_
  refine j_cVi hE mlL_92 hw2.m0 (lw_thrown hw2) rfl rfl (Nat.le_of_ble_eq_true rfl) (by decide) (by decide) (by omega) (by omega) dL_law_849 (fun r3 G3 hs3 hp3 => ?_) (fun _ _ h => h.elim)
  obtain ⟨e4, e5⟩ := hp3
  subst e5
  rw [hth] at e4
  subst e4
  refine j_iload hE dL_law_852 rfl ?_
  refine j_ic_eqN hE (tgt := 859) dL_law_854 (by decide) (by omega) (by omega) (fun _ => ?_) (fun q => absurd rfl q)
  refine j_iload hE dL_law_859 rfl ?_
  refine j_if_neN hE (tgt := 876) dL_law_861 (by decide) (by omega) (fun _ => ?_) (fun q => ?_)
  · refine j_goto hE (tgt := 1453) dL_law_876 (by decide) ?_
    refine j_widen (k := cells + 4) (n := slots + 24) (by omega) (by omega) ?_
    refine j_less (lo2 := lwL b x i) lwL_less ?_
    exact nx _ _ _ _ hR2 hw2
  · refine j_aload_n hE (i := 3) dL_law_864 rfl rfl ?_
    refine j_iconst hE (v := nI 0) dL_law_865 (by decide) ?_
    refine j_lald hE (e233.trans hf) rfl (by omega) (by decide) dL_law_866 ?_
    rw [hf0 q]
    refine j_iload hE dL_law_867 rfl ?_
    refine j_i2l hE dL_law_869 ?_
    refine j_lcmp hE dL_law_870 ?_
    refine j_if_eq hE (tgt := 876) dL_law_871 (by decide) (fun _ => ?_) (fun q2 => absurd ((lg_cmp_eq _ _).mpr rfl) q2)
    refine j_goto hE (tgt := 1453) dL_law_876 (by decide) ?_
    refine j_widen (k := cells + 4) (n := slots + 24) (by omega) (by omega) ?_
    refine j_less (lo2 := lwL b x i) lwL_less ?_
    exact nx _ _ _ _ hR2 hw2
set_option maxRecDepth 100000 in
set_option maxHeartbeats 4000000 in
theorem law_receiverState (hE : jC K A E RL cL_law 9 12 438 601024 7293034) (hZ : jScr A E b L xs) (hL : L ≤ 2560) (hi : i + 5 ≤ L) (hR : RelV c v) (hw : lwOk K G x c v) (hc9 : cells + 4 ≤ 601024) (hs9 : slots + 24 ≤ 7293034) (nx : lwN K A E b x cells slots i) : J K A E 9 G hs cells slots 879 (lwL b x i) [] := by
  obtain ⟨bb, c2, v2, hR2, hH, hM⟩ := OP_receiverState (K := K) (x := x) hR
  dsimp only at hH hM
  refine j_aload_n hE (i := 1) dL_law_879 rfl rfl ?_
  refine j_cVi hE mlL_136 hw.1.f0 (fun l hl => hH l hl G hs hw) rfl rfl (Nat.le_of_ble_eq_true rfl) (by decide) (by decide) (by omega) (by omega) dL_law_880 (fun r G1 hs1 hp => ?_) (fun _ _ h => h.elim)
  obtain ⟨rfl, hw1⟩ := hp
  refine j_aload_n hE (i := 2) dL_law_883 rfl rfl ?_
  refine j_cVi hE mlL_139 hw1.m0 (fun l hl => hM l hl G1 hs1 hw1) rfl rfl (Nat.le_of_ble_eq_true rfl) (by decide) (by decide) (by omega) (by omega) dL_law_884 (fun r2 G2 hs2 hp2 => ?_) (fun _ _ h => h.elim)
  obtain ⟨e2, hw2⟩ := hp2
  subst e2
  refine j_ic_eq hE (tgt := 1453) dL_law_887 (by decide) (fun _ => ?_) (fun q => absurd rfl q)
  refine j_widen (k := cells + 4) (n := slots + 24) (by omega) (by omega) ?_
  refine j_less (lo2 := lwL b x i) lwL_less ?_
  exact nx _ _ _ _ hR2 hw2
set_option maxRecDepth 100000 in
set_option maxHeartbeats 4000000 in
theorem law_received (hE : jC K A E RL cL_law 9 12 438 601024 7293034) (hZ : jScr A E b L xs) (hL : L ≤ 2560) (hi : i + 5 ≤ L) (hR : RelV c v) (hw : lwOk K G x c v) (hc9 : cells + 4 ≤ 601024) (hs9 : slots + 24 ≤ 7293034) (nx : lwN K A E b x cells slots i) : J K A E 9 G hs cells slots 892 (lwL b x i) [] := by
  obtain ⟨kk, bb, c2, v2, hkk, hR2, hth, hH, hM⟩ := OP_received (K := K) (x := x) hR (xs (i + 1))
  dsimp only at hH hM
  refine j_aload_n hE (i := 1) dL_law_892 rfl rfl ?_
  refine j_aload_n hE (i := 0) dL_law_893 rfl rfl ?_
  refine j_iload hE dL_law_894 rfl ?_
  refine j_iconst hE (v := nI 1) dL_law_896 (by decide) ?_
  refine j_iaddN hE dL_law_897 ?_
  refine j_sld hE hZ rfl (by omega) hL dL_law_898 ?_
  refine j_aload_n hE (i := 3) dL_law_899 rfl rfl ?_
  refine j_cSWi hE swL_140 (fun l hl => hH l hl G hs hw) rfl rfl (Nat.le_of_ble_eq_true rfl) (by decide) (by decide) (by omega) (by omega) dL_law_900 (fun r G1 hs1 hp => ?_)
  obtain ⟨rfl, hw1, f, hf, hf0⟩ := hp
  refine j_ist6 hE dL_law_903 (by decide) rfl ?_
  refine j_aload_n hE (i := 2) dL_law_905 rfl rfl ?_
  refine j_aload_n hE (i := 0) dL_law_906 rfl rfl ?_
  refine j_iload hE dL_law_907 rfl ?_
  refine j_iconst hE (v := nI 1) dL_law_909 (by decide) ?_
  refine j_iaddN hE dL_law_910 ?_
  refine j_sld hE hZ rfl (by omega) hL dL_law_911 ?_
  refine j_cVi hE mlL_142 hw1.m0 (fun l hl => hM l hl G1 hs1 hw1) rfl rfl (Nat.le_of_ble_eq_true rfl) (by decide) (by decide) (by omega) (by omega) dL_law_912 (fun r2 G2 hs2 hp2 => ?_) (fun _ _ h => h.elim)
  obtain ⟨e2, e3⟩ := hp2
  subst e2
  obtain ⟨hw2, e233, e234⟩ := hw1.md e3
  refine j_ist7 hE dL_law_915 (by decide) rfl ?_
  refine j_aload_n hE (i := 2) dL_law_917 rfl rfl ?_
  refine j_cVi hE mlL_92 hw2.m0 (lw_thrown hw2) rfl rfl (Nat.le_of_ble_eq_true rfl) (by decide) (by decide) (by omega) (by omega) dL_law_918 (fun r3 G3 hs3 hp3 => ?_) (fun _ _ h => h.elim)
  obtain ⟨e4, e5⟩ := hp3
  subst e5
  rw [hth] at e4
  subst e4
  refine j_iload hE dL_law_921 rfl ?_
  refine j_ic_eqN hE (tgt := 928) dL_law_923 (by decide) (by omega) (by omega) (fun _ => ?_) (fun q => absurd rfl q)
  refine j_iload hE dL_law_928 rfl ?_
  refine j_if_neN hE (tgt := 945) dL_law_930 (by decide) (by omega) (fun _ => ?_) (fun q => ?_)
  · refine j_goto hE (tgt := 1453) dL_law_945 (by decide) ?_
    refine j_widen (k := cells + 4) (n := slots + 24) (by omega) (by omega) ?_
    refine j_less (lo2 := lwL b x i) lwL_less ?_
    exact nx _ _ _ _ hR2 hw2
  · refine j_aload_n hE (i := 3) dL_law_933 rfl rfl ?_
    refine j_iconst hE (v := nI 0) dL_law_934 (by decide) ?_
    refine j_lald hE (e233.trans hf) rfl (by omega) (by decide) dL_law_935 ?_
    rw [hf0 q]
    refine j_iload hE dL_law_936 rfl ?_
    refine j_i2l hE dL_law_938 ?_
    refine j_lcmp hE dL_law_939 ?_
    refine j_if_eq hE (tgt := 945) dL_law_940 (by decide) (fun _ => ?_) (fun q2 => absurd ((lg_cmp_eq _ _).mpr rfl) q2)
    refine j_goto hE (tgt := 1453) dL_law_945 (by decide) ?_
    refine j_widen (k := cells + 4) (n := slots + 24) (by omega) (by omega) ?_
    refine j_less (lo2 := lwL b x i) lwL_less ?_
    exact nx _ _ _ _ hR2 hw2
set_option maxRecDepth 100000 in
set_option maxHeartbeats 4000000 in
theorem law_sample (hE : jC K A E RL cL_law 9 12 438 601024 7293034) (hZ : jScr A E b L xs) (hL : L ≤ 2560) (hi : i + 5 ≤ L) (hR : RelV c v) (hw : lwOk K G x c v) (hc9 : cells + 4 ≤ 601024) (hs9 : slots + 24 ≤ 7293034) (nx : lwN K A E b x cells slots i) : J K A E 9 G hs cells slots 948 (lwL b x i) [] := by
  obtain ⟨kk, bb, c2, v2, hkk, hR2, hth, hH, hM⟩ := OP_sample (K := K) (x := x) hR (xs (i + 1))
  dsimp only at hH hM
  refine j_aload_n hE (i := 1) dL_law_948 rfl rfl ?_
  refine j_aload_n hE (i := 0) dL_law_949 rfl rfl ?_
  refine j_iload hE dL_law_950 rfl ?_
  refine j_iconst hE (v := nI 1) dL_law_952 (by decide) ?_
  refine j_iaddN hE dL_law_953 ?_
  refine j_sld hE hZ rfl (by omega) hL dL_law_954 ?_
  refine j_aload_n hE (i := 3) dL_law_955 rfl rfl ?_
  refine j_cSWi hE swL_143 (fun l hl => hH l hl G hs hw) rfl rfl (Nat.le_of_ble_eq_true rfl) (by decide) (by decide) (by omega) (by omega) dL_law_956 (fun r G1 hs1 hp => ?_)
  obtain ⟨rfl, hw1, f, hf, hf0⟩ := hp
  refine j_ist6 hE dL_law_959 (by decide) rfl ?_
  refine j_aload_n hE (i := 2) dL_law_961 rfl rfl ?_
  refine j_aload_n hE (i := 0) dL_law_962 rfl rfl ?_
  refine j_iload hE dL_law_963 rfl ?_
  refine j_iconst hE (v := nI 1) dL_law_965 (by decide) ?_
  refine j_iaddN hE dL_law_966 ?_
  refine j_sld hE hZ rfl (by omega) hL dL_law_967 ?_
  refine j_cVi hE mlL_145 hw1.m0 (fun l hl => hM l hl G1 hs1 hw1) rfl rfl (Nat.le_of_ble_eq_true rfl) (by decide) (by decide) (by omega) (by omega) dL_law_968 (fun r2 G2 hs2 hp2 => ?_) (fun _ _ h => h.elim)
  obtain ⟨e2, e3⟩ := hp2
  subst e2
  obtain ⟨hw2, e233, e234⟩ := hw1.md e3
  refine j_ist7 hE dL_law_971 (by decide) rfl ?_
  refine j_aload_n hE (i := 2) dL_law_973 rfl rfl ?_
  refine j_cVi hE mlL_92 hw2.m0 (lw_thrown hw2) rfl rfl (Nat.le_of_ble_eq_true rfl) (by decide) (by decide) (by omega) (by omega) dL_law_974 (fun r3 G3 hs3 hp3 => ?_) (fun _ _ h => h.elim)
  obtain ⟨e4, e5⟩ := hp3
  subst e5
  rw [hth] at e4
  subst e4
  refine j_iload hE dL_law_977 rfl ?_
  refine j_ic_eqN hE (tgt := 984) dL_law_979 (by decide) (by omega) (by omega) (fun _ => ?_) (fun q => absurd rfl q)
  refine j_iload hE dL_law_984 rfl ?_
  refine j_if_neN hE (tgt := 1001) dL_law_986 (by decide) (by omega) (fun _ => ?_) (fun q => ?_)
  · refine j_goto hE (tgt := 1453) dL_law_1001 (by decide) ?_
    refine j_widen (k := cells + 4) (n := slots + 24) (by omega) (by omega) ?_
    refine j_less (lo2 := lwL b x i) lwL_less ?_
    exact nx _ _ _ _ hR2 hw2
  · refine j_aload_n hE (i := 3) dL_law_989 rfl rfl ?_
    refine j_iconst hE (v := nI 0) dL_law_990 (by decide) ?_
    refine j_lald hE (e233.trans hf) rfl (by omega) (by decide) dL_law_991 ?_
    rw [hf0 q]
    refine j_iload hE dL_law_992 rfl ?_
    refine j_i2l hE dL_law_994 ?_
    refine j_lcmp hE dL_law_995 ?_
    refine j_if_eq hE (tgt := 1001) dL_law_996 (by decide) (fun _ => ?_) (fun q2 => absurd ((lg_cmp_eq _ _).mpr rfl) q2)
    refine j_goto hE (tgt := 1453) dL_law_1001 (by decide) ?_
    refine j_widen (k := cells + 4) (n := slots + 24) (by omega) (by omega) ?_
    refine j_less (lo2 := lwL b x i) lwL_less ?_
    exact nx _ _ _ _ hR2 hw2
set_option maxRecDepth 100000 in
set_option maxHeartbeats 4000000 in
theorem law_samples (hE : jC K A E RL cL_law 9 12 438 601024 7293034) (hZ : jScr A E b L xs) (hL : L ≤ 2560) (hi : i + 5 ≤ L) (hR : RelV c v) (hw : lwOk K G x c v) (hc9 : cells + 4 ≤ 601024) (hs9 : slots + 24 ≤ 7293034) (nx : lwN K A E b x cells slots i) : J K A E 9 G hs cells slots 1004 (lwL b x i) [] := by
  obtain ⟨kk, bb, c2, v2, hkk, hR2, hth, hH, hM⟩ := OP_samples (K := K) (x := x) hR (xs (i + 1))
  dsimp only at hH hM
  refine j_aload_n hE (i := 1) dL_law_1004 rfl rfl ?_
  refine j_aload_n hE (i := 0) dL_law_1005 rfl rfl ?_
  refine j_iload hE dL_law_1006 rfl ?_
  refine j_iconst hE (v := nI 1) dL_law_1008 (by decide) ?_
  refine j_iaddN hE dL_law_1009 ?_
  refine j_sld hE hZ rfl (by omega) hL dL_law_1010 ?_
  refine j_aload_n hE (i := 3) dL_law_1011 rfl rfl ?_
  refine j_cSWi hE swL_146 (fun l hl => hH l hl G hs hw) rfl rfl (Nat.le_of_ble_eq_true rfl) (by decide) (by decide) (by omega) (by omega) dL_law_1012 (fun r G1 hs1 hp => ?_)
  obtain ⟨rfl, hw1, f, hf, hf0⟩ := hp
  refine j_ist6 hE dL_law_1015 (by decide) rfl ?_
  refine j_aload_n hE (i := 2) dL_law_1017 rfl rfl ?_
  refine j_aload_n hE (i := 0) dL_law_1018 rfl rfl ?_
  refine j_iload hE dL_law_1019 rfl ?_
  refine j_iconst hE (v := nI 1) dL_law_1021 (by decide) ?_
  refine j_iaddN hE dL_law_1022 ?_
  refine j_sld hE hZ rfl (by omega) hL dL_law_1023 ?_
  refine j_cVi hE mlL_148 hw1.m0 (fun l hl => hM l hl G1 hs1 hw1) rfl rfl (Nat.le_of_ble_eq_true rfl) (by decide) (by decide) (by omega) (by omega) dL_law_1024 (fun r2 G2 hs2 hp2 => ?_) (fun _ _ h => h.elim)
  obtain ⟨e2, e3⟩ := hp2
  subst e2
  obtain ⟨hw2, e233, e234⟩ := hw1.md e3
  refine j_ist7 hE dL_law_1027 (by decide) rfl ?_
  refine j_aload_n hE (i := 2) dL_law_1029 rfl rfl ?_
  refine j_cVi hE mlL_92 hw2.m0 (lw_thrown hw2) rfl rfl (Nat.le_of_ble_eq_true rfl) (by decide) (by decide) (by omega) (by omega) dL_law_1030 (fun r3 G3 hs3 hp3 => ?_) (fun _ _ h => h.elim)
  obtain ⟨e4, e5⟩ := hp3
  subst e5
  rw [hth] at e4
  subst e4
  refine j_iload hE dL_law_1033 rfl ?_
  refine j_ic_eqN hE (tgt := 1040) dL_law_1035 (by decide) (by omega) (by omega) (fun _ => ?_) (fun q => absurd rfl q)
  refine j_iload hE dL_law_1040 rfl ?_
  refine j_if_neN hE (tgt := 1057) dL_law_1042 (by decide) (by omega) (fun _ => ?_) (fun q => ?_)
  · refine j_goto hE (tgt := 1453) dL_law_1057 (by decide) ?_
    refine j_widen (k := cells + 4) (n := slots + 24) (by omega) (by omega) ?_
    refine j_less (lo2 := lwL b x i) lwL_less ?_
    exact nx _ _ _ _ hR2 hw2
  · refine j_aload_n hE (i := 3) dL_law_1045 rfl rfl ?_
    refine j_iconst hE (v := nI 0) dL_law_1046 (by decide) ?_
    refine j_lald hE (e233.trans hf) rfl (by omega) (by decide) dL_law_1047 ?_
    rw [hf0 q]
    refine j_iload hE dL_law_1048 rfl ?_
    refine j_i2l hE dL_law_1050 ?_
    refine j_lcmp hE dL_law_1051 ?_
    refine j_if_eq hE (tgt := 1057) dL_law_1052 (by decide) (fun _ => ?_) (fun q2 => absurd ((lg_cmp_eq _ _).mpr rfl) q2)
    refine j_goto hE (tgt := 1453) dL_law_1057 (by decide) ?_
    refine j_widen (k := cells + 4) (n := slots + 24) (by omega) (by omega) ?_
    refine j_less (lo2 := lwL b x i) lwL_less ?_
    exact nx _ _ _ _ hR2 hw2
set_option maxRecDepth 100000 in
set_option maxHeartbeats 4000000 in
theorem law_setMode (hE : jC K A E RL cL_law 9 12 438 601024 7293034) (hZ : jScr A E b L xs) (hL : L ≤ 2560) (hi : i + 5 ≤ L) (hR : RelV c v) (hw : lwOk K G x c v) (hc9 : cells + 4 ≤ 601024) (hs9 : slots + 24 ≤ 7293034) (nx : lwN K A E b x cells slots i) : J K A E 9 G hs cells slots 1060 (lwL b x i) [] := by
  obtain ⟨kk, bb, c2, v2, hkk, hR2, hth, hH, hM⟩ := OP_setMode (K := K) (x := x) hR (xs (i + 1))
  dsimp only at hH hM
  refine j_aload_n hE (i := 1) dL_law_1060 rfl rfl ?_
  refine j_aload_n hE (i := 0) dL_law_1061 rfl rfl ?_
  refine j_iload hE dL_law_1062 rfl ?_
  refine j_iconst hE (v := nI 1) dL_law_1064 (by decide) ?_
  refine j_iaddN hE dL_law_1065 ?_
  refine j_sld hE hZ rfl (by omega) hL dL_law_1066 ?_
  refine j_aload_n hE (i := 3) dL_law_1067 rfl rfl ?_
  refine j_cSWi hE swL_149 (fun l hl => hH l hl G hs hw) rfl rfl (Nat.le_of_ble_eq_true rfl) (by decide) (by decide) (by omega) (by omega) dL_law_1068 (fun r G1 hs1 hp => ?_)
  obtain ⟨rfl, hw1, f, hf, hf0⟩ := hp
  refine j_ist6 hE dL_law_1071 (by decide) rfl ?_
  refine j_aload_n hE (i := 2) dL_law_1073 rfl rfl ?_
  refine j_aload_n hE (i := 0) dL_law_1074 rfl rfl ?_
  refine j_iload hE dL_law_1075 rfl ?_
  refine j_iconst hE (v := nI 1) dL_law_1077 (by decide) ?_
  refine j_iaddN hE dL_law_1078 ?_
  refine j_sld hE hZ rfl (by omega) hL dL_law_1079 ?_
  refine j_cVi hE mlL_151 hw1.m0 (fun l hl => hM l hl G1 hs1 hw1) rfl rfl (Nat.le_of_ble_eq_true rfl) (by decide) (by decide) (by omega) (by omega) dL_law_1080 (fun r2 G2 hs2 hp2 => ?_) (fun _ _ h => h.elim)
  obtain ⟨e2, e3⟩ := hp2
  subst e2
  obtain ⟨hw2, e233, e234⟩ := hw1.md e3
  refine j_ist7 hE dL_law_1083 (by decide) rfl ?_
  refine j_aload_n hE (i := 2) dL_law_1085 rfl rfl ?_
  refine j_cVi hE mlL_92 hw2.m0 (lw_thrown hw2) rfl rfl (Nat.le_of_ble_eq_true rfl) (by decide) (by decide) (by omega) (by omega) dL_law_1086 (fun r3 G3 hs3 hp3 => ?_) (fun _ _ h => h.elim)
  obtain ⟨e4, e5⟩ := hp3
  subst e5
  rw [hth] at e4
  subst e4
  refine j_iload hE dL_law_1089 rfl ?_
  refine j_ic_eqN hE (tgt := 1096) dL_law_1091 (by decide) (by omega) (by omega) (fun _ => ?_) (fun q => absurd rfl q)
  refine j_iload hE dL_law_1096 rfl ?_
  refine j_if_neN hE (tgt := 1113) dL_law_1098 (by decide) (by omega) (fun _ => ?_) (fun q => ?_)
  · refine j_goto hE (tgt := 1453) dL_law_1113 (by decide) ?_
    refine j_widen (k := cells + 4) (n := slots + 24) (by omega) (by omega) ?_
    refine j_less (lo2 := lwL b x i) lwL_less ?_
    exact nx _ _ _ _ hR2 hw2
  · refine j_aload_n hE (i := 3) dL_law_1101 rfl rfl ?_
    refine j_iconst hE (v := nI 0) dL_law_1102 (by decide) ?_
    refine j_lald hE (e233.trans hf) rfl (by omega) (by decide) dL_law_1103 ?_
    rw [hf0 q]
    refine j_iload hE dL_law_1104 rfl ?_
    refine j_i2l hE dL_law_1106 ?_
    refine j_lcmp hE dL_law_1107 ?_
    refine j_if_eq hE (tgt := 1113) dL_law_1108 (by decide) (fun _ => ?_) (fun q2 => absurd ((lg_cmp_eq _ _).mpr rfl) q2)
    refine j_goto hE (tgt := 1453) dL_law_1113 (by decide) ?_
    refine j_widen (k := cells + 4) (n := slots + 24) (by omega) (by omega) ?_
    refine j_less (lo2 := lwL b x i) lwL_less ?_
    exact nx _ _ _ _ hR2 hw2
set_option maxRecDepth 100000 in
set_option maxHeartbeats 4000000 in
theorem law_setLimits (hE : jC K A E RL cL_law 9 12 438 601024 7293034) (hZ : jScr A E b L xs) (hL : L ≤ 2560) (hi : i + 5 ≤ L) (hR : RelV c v) (hw : lwOk K G x c v) (hc9 : cells + 4 ≤ 601024) (hs9 : slots + 24 ≤ 7293034) (nx : lwN K A E b x cells slots i) : J K A E 9 G hs cells slots 1116 (lwL b x i) [] := by
  obtain ⟨kk, bb, c2, v2, hkk, hR2, hth, hH, hM⟩ := OP_setLimits (K := K) (x := x) hR (xs (i + 1)) (xs (i + 2)) (xs (i + 3)) (xs (i + 4))
  dsimp only at hH hM
  refine j_aload_n hE (i := 1) dL_law_1116 rfl rfl ?_
  refine j_aload_n hE (i := 0) dL_law_1117 rfl rfl ?_
  refine j_iload hE dL_law_1118 rfl ?_
  refine j_iconst hE (v := nI 1) dL_law_1120 (by decide) ?_
  refine j_iaddN hE dL_law_1121 ?_
  refine j_sld hE hZ rfl (by omega) hL dL_law_1122 ?_
  refine j_aload_n hE (i := 0) dL_law_1123 rfl rfl ?_
  refine j_iload hE dL_law_1124 rfl ?_
  refine j_iconst hE (v := nI 2) dL_law_1126 (by decide) ?_
  refine j_iaddN hE dL_law_1127 ?_
  refine j_sld hE hZ rfl (by omega) hL dL_law_1128 ?_
  refine j_aload_n hE (i := 0) dL_law_1129 rfl rfl ?_
  refine j_iload hE dL_law_1130 rfl ?_
  refine j_iconst hE (v := nI 3) dL_law_1132 (by decide) ?_
  refine j_iaddN hE dL_law_1133 ?_
  refine j_sld hE hZ rfl (by omega) hL dL_law_1134 ?_
  refine j_aload_n hE (i := 0) dL_law_1135 rfl rfl ?_
  refine j_iload hE dL_law_1136 rfl ?_
  refine j_iconst hE (v := nI 4) dL_law_1138 (by decide) ?_
  refine j_iaddN hE dL_law_1139 ?_
  refine j_sld hE hZ rfl (by omega) hL dL_law_1140 ?_
  refine j_aload_n hE (i := 3) dL_law_1141 rfl rfl ?_
  refine j_cSWi hE swL_152 (fun l hl => hH l hl G hs hw) rfl rfl (Nat.le_of_ble_eq_true rfl) (by decide) (by decide) (by omega) (by omega) dL_law_1142 (fun r G1 hs1 hp => ?_)
  obtain ⟨rfl, hw1, f, hf, hf0⟩ := hp
  refine j_ist6 hE dL_law_1145 (by decide) rfl ?_
  refine j_aload_n hE (i := 2) dL_law_1147 rfl rfl ?_
  refine j_aload_n hE (i := 0) dL_law_1148 rfl rfl ?_
  refine j_iload hE dL_law_1149 rfl ?_
  refine j_iconst hE (v := nI 1) dL_law_1151 (by decide) ?_
  refine j_iaddN hE dL_law_1152 ?_
  refine j_sld hE hZ rfl (by omega) hL dL_law_1153 ?_
  refine j_aload_n hE (i := 0) dL_law_1154 rfl rfl ?_
  refine j_iload hE dL_law_1155 rfl ?_
  refine j_iconst hE (v := nI 2) dL_law_1157 (by decide) ?_
  refine j_iaddN hE dL_law_1158 ?_
  refine j_sld hE hZ rfl (by omega) hL dL_law_1159 ?_
  refine j_aload_n hE (i := 0) dL_law_1160 rfl rfl ?_
  refine j_iload hE dL_law_1161 rfl ?_
  refine j_iconst hE (v := nI 3) dL_law_1163 (by decide) ?_
  refine j_iaddN hE dL_law_1164 ?_
  refine j_sld hE hZ rfl (by omega) hL dL_law_1165 ?_
  refine j_aload_n hE (i := 0) dL_law_1166 rfl rfl ?_
  refine j_iload hE dL_law_1167 rfl ?_
  refine j_iconst hE (v := nI 4) dL_law_1169 (by decide) ?_
  refine j_iaddN hE dL_law_1170 ?_
  refine j_sld hE hZ rfl (by omega) hL dL_law_1171 ?_
  refine j_cVi hE mlL_155 hw1.m0 (fun l hl => hM l hl G1 hs1 hw1) rfl rfl (Nat.le_of_ble_eq_true rfl) (by decide) (by decide) (by omega) (by omega) dL_law_1172 (fun r2 G2 hs2 hp2 => ?_) (fun _ _ h => h.elim)
  obtain ⟨e2, e3⟩ := hp2
  subst e2
  obtain ⟨hw2, e233, e234⟩ := hw1.md e3
  refine j_ist7 hE dL_law_1175 (by decide) rfl ?_
  refine j_aload_n hE (i := 2) dL_law_1177 rfl rfl ?_
  refine j_cVi hE mlL_92 hw2.m0 (lw_thrown hw2) rfl rfl (Nat.le_of_ble_eq_true rfl) (by decide) (by decide) (by omega) (by omega) dL_law_1178 (fun r3 G3 hs3 hp3 => ?_) (fun _ _ h => h.elim)
  obtain ⟨e4, e5⟩ := hp3
  subst e5
  rw [hth] at e4
  subst e4
  refine j_iload hE dL_law_1181 rfl ?_
  refine j_ic_eqN hE (tgt := 1188) dL_law_1183 (by decide) (by omega) (by omega) (fun _ => ?_) (fun q => absurd rfl q)
  refine j_iload hE dL_law_1188 rfl ?_
  refine j_if_neN hE (tgt := 1205) dL_law_1190 (by decide) (by omega) (fun _ => ?_) (fun q => ?_)
  · refine j_goto hE (tgt := 1453) dL_law_1205 (by decide) ?_
    refine j_widen (k := cells + 4) (n := slots + 24) (by omega) (by omega) ?_
    refine j_less (lo2 := lwL b x i) lwL_less ?_
    exact nx _ _ _ _ hR2 hw2
  · refine j_aload_n hE (i := 3) dL_law_1193 rfl rfl ?_
    refine j_iconst hE (v := nI 0) dL_law_1194 (by decide) ?_
    refine j_lald hE (e233.trans hf) rfl (by omega) (by decide) dL_law_1195 ?_
    rw [hf0 q]
    refine j_iload hE dL_law_1196 rfl ?_
    refine j_i2l hE dL_law_1198 ?_
    refine j_lcmp hE dL_law_1199 ?_
    refine j_if_eq hE (tgt := 1205) dL_law_1200 (by decide) (fun _ => ?_) (fun q2 => absurd ((lg_cmp_eq _ _).mpr rfl) q2)
    refine j_goto hE (tgt := 1453) dL_law_1205 (by decide) ?_
    refine j_widen (k := cells + 4) (n := slots + 24) (by omega) (by omega) ?_
    refine j_less (lo2 := lwL b x i) lwL_less ?_
    exact nx _ _ _ _ hR2 hw2
set_option maxRecDepth 100000 in
set_option maxHeartbeats 4000000 in
theorem law_setPersistence (hE : jC K A E RL cL_law 9 12 438 601024 7293034) (hZ : jScr A E b L xs) (hL : L ≤ 2560) (hi : i + 5 ≤ L) (hR : RelV c v) (hw : lwOk K G x c v) (hc9 : cells + 4 ≤ 601024) (hs9 : slots + 24 ≤ 7293034) (nx : lwN K A E b x cells slots i) : J K A E 9 G hs cells slots 1208 (lwL b x i) [] := by
  obtain ⟨kk, bb, c2, v2, hkk, hR2, hth, hH, hM⟩ := OP_setPersistence (K := K) (x := x) hR (xs (i + 1)) (xs (i + 2))
  dsimp only at hH hM
  refine j_aload_n hE (i := 1) dL_law_1208 rfl rfl ?_
  refine j_aload_n hE (i := 0) dL_law_1209 rfl rfl ?_
  refine j_iload hE dL_law_1210 rfl ?_
  refine j_iconst hE (v := nI 1) dL_law_1212 (by decide) ?_
  refine j_iaddN hE dL_law_1213 ?_
  refine j_sld hE hZ rfl (by omega) hL dL_law_1214 ?_
  refine j_aload_n hE (i := 0) dL_law_1215 rfl rfl ?_
  refine j_iload hE dL_law_1216 rfl ?_
  refine j_iconst hE (v := nI 2) dL_law_1218 (by decide) ?_
  refine j_iaddN hE dL_law_1219 ?_
  refine j_sld hE hZ rfl (by omega) hL dL_law_1220 ?_
  refine j_aload_n hE (i := 3) dL_law_1221 rfl rfl ?_
  refine j_cSWi hE swL_156 (fun l hl => hH l hl G hs hw) rfl rfl (Nat.le_of_ble_eq_true rfl) (by decide) (by decide) (by omega) (by omega) dL_law_1222 (fun r G1 hs1 hp => ?_)
  obtain ⟨rfl, hw1, f, hf, hf0⟩ := hp
  refine j_ist6 hE dL_law_1225 (by decide) rfl ?_
  refine j_aload_n hE (i := 2) dL_law_1227 rfl rfl ?_
  refine j_aload_n hE (i := 0) dL_law_1228 rfl rfl ?_
  refine j_iload hE dL_law_1229 rfl ?_
  refine j_iconst hE (v := nI 1) dL_law_1231 (by decide) ?_
  refine j_iaddN hE dL_law_1232 ?_
  refine j_sld hE hZ rfl (by omega) hL dL_law_1233 ?_
  refine j_aload_n hE (i := 0) dL_law_1234 rfl rfl ?_
  refine j_iload hE dL_law_1235 rfl ?_
  refine j_iconst hE (v := nI 2) dL_law_1237 (by decide) ?_
  refine j_iaddN hE dL_law_1238 ?_
  refine j_sld hE hZ rfl (by omega) hL dL_law_1239 ?_
  refine j_cVi hE mlL_158 hw1.m0 (fun l hl => hM l hl G1 hs1 hw1) rfl rfl (Nat.le_of_ble_eq_true rfl) (by decide) (by decide) (by omega) (by omega) dL_law_1240 (fun r2 G2 hs2 hp2 => ?_) (fun _ _ h => h.elim)
  obtain ⟨e2, e3⟩ := hp2
  subst e2
  obtain ⟨hw2, e233, e234⟩ := hw1.md e3
  refine j_ist7 hE dL_law_1243 (by decide) rfl ?_
  refine j_aload_n hE (i := 2) dL_law_1245 rfl rfl ?_
  refine j_cVi hE mlL_92 hw2.m0 (lw_thrown hw2) rfl rfl (Nat.le_of_ble_eq_true rfl) (by decide) (by decide) (by omega) (by omega) dL_law_1246 (fun r3 G3 hs3 hp3 => ?_) (fun _ _ h => h.elim)
  obtain ⟨e4, e5⟩ := hp3
  subst e5
  rw [hth] at e4
  subst e4
  refine j_iload hE dL_law_1249 rfl ?_
  refine j_ic_eqN hE (tgt := 1256) dL_law_1251 (by decide) (by omega) (by omega) (fun _ => ?_) (fun q => absurd rfl q)
  refine j_iload hE dL_law_1256 rfl ?_
  refine j_if_neN hE (tgt := 1273) dL_law_1258 (by decide) (by omega) (fun _ => ?_) (fun q => ?_)
  · refine j_goto hE (tgt := 1453) dL_law_1273 (by decide) ?_
    refine j_widen (k := cells + 4) (n := slots + 24) (by omega) (by omega) ?_
    refine j_less (lo2 := lwL b x i) lwL_less ?_
    exact nx _ _ _ _ hR2 hw2
  · refine j_aload_n hE (i := 3) dL_law_1261 rfl rfl ?_
    refine j_iconst hE (v := nI 0) dL_law_1262 (by decide) ?_
    refine j_lald hE (e233.trans hf) rfl (by omega) (by decide) dL_law_1263 ?_
    rw [hf0 q]
    refine j_iload hE dL_law_1264 rfl ?_
    refine j_i2l hE dL_law_1266 ?_
    refine j_lcmp hE dL_law_1267 ?_
    refine j_if_eq hE (tgt := 1273) dL_law_1268 (by decide) (fun _ => ?_) (fun q2 => absurd ((lg_cmp_eq _ _).mpr rfl) q2)
    refine j_goto hE (tgt := 1453) dL_law_1273 (by decide) ?_
    refine j_widen (k := cells + 4) (n := slots + 24) (by omega) (by omega) ?_
    refine j_less (lo2 := lwL b x i) lwL_less ?_
    exact nx _ _ _ _ hR2 hw2
set_option maxRecDepth 100000 in
set_option maxHeartbeats 4000000 in
theorem law_hasAlarm (hE : jC K A E RL cL_law 9 12 438 601024 7293034) (hZ : jScr A E b L xs) (hL : L ≤ 2560) (hi : i + 5 ≤ L) (hR : RelV c v) (hw : lwOk K G x c v) (hc9 : cells + 4 ≤ 601024) (hs9 : slots + 24 ≤ 7293034) (nx : lwN K A E b x cells slots i) : J K A E 9 G hs cells slots 1276 (lwL b x i) [] := by
  obtain ⟨kk, bb, c2, v2, hkk, hR2, hth, hH, hM⟩ := OPB_hasAlarm (K := K) (x := x) hR (xs (i + 1))
  dsimp only at hH hM
  refine j_aload_n hE (i := 1) dL_law_1276 rfl rfl ?_
  refine j_aload_n hE (i := 0) dL_law_1277 rfl rfl ?_
  refine j_iload hE dL_law_1278 rfl ?_
  refine j_iconst hE (v := nI 1) dL_law_1280 (by decide) ?_
  refine j_iaddN hE dL_law_1281 ?_
  refine j_sld hE hZ rfl (by omega) hL dL_law_1282 ?_
  refine j_aload_n hE (i := 3) dL_law_1283 rfl rfl ?_
  refine j_cSWi hE swL_159 (fun l hl => hH l hl G hs hw) rfl rfl (Nat.le_of_ble_eq_true rfl) (by decide) (by decide) (by omega) (by omega) dL_law_1284 (fun r G1 hs1 hp => ?_)
  obtain ⟨rfl, hw1, f, hf, hf0⟩ := hp
  refine j_ist6 hE dL_law_1287 (by decide) rfl ?_
  refine j_aload_n hE (i := 2) dL_law_1289 rfl rfl ?_
  refine j_aload_n hE (i := 0) dL_law_1290 rfl rfl ?_
  refine j_iload hE dL_law_1291 rfl ?_
  refine j_iconst hE (v := nI 1) dL_law_1293 (by decide) ?_
  refine j_iaddN hE dL_law_1294 ?_
  refine j_sld hE hZ rfl (by omega) hL dL_law_1295 ?_
  refine j_cVi hE mlL_161 hw1.m0 (fun l hl => hM l hl G1 hs1 hw1) rfl rfl (Nat.le_of_ble_eq_true rfl) (by decide) (by decide) (by omega) (by omega) dL_law_1296 (fun r2 G2 hs2 hp2 => ?_) (fun _ _ h => h.elim)
  obtain ⟨e2, e3⟩ := hp2
  subst e2
  obtain ⟨hw2, e233, e234⟩ := hw1.md e3
  refine j_ist7 hE dL_law_1299 (by decide) rfl ?_
  refine j_aload_n hE (i := 2) dL_law_1301 rfl rfl ?_
  refine j_cVi hE mlL_92 hw2.m0 (lw_thrown hw2) rfl rfl (Nat.le_of_ble_eq_true rfl) (by decide) (by decide) (by omega) (by omega) dL_law_1302 (fun r3 G3 hs3 hp3 => ?_) (fun _ _ h => h.elim)
  obtain ⟨e4, e5⟩ := hp3
  subst e5
  rw [hth] at e4
  subst e4
  refine j_iload hE dL_law_1305 rfl ?_
  refine j_ic_eqN hE (tgt := 1312) dL_law_1307 (by decide) (by omega) (by omega) (fun _ => ?_) (fun q => absurd rfl q)
  refine j_iload hE dL_law_1312 rfl ?_
  refine j_if_neN hE (tgt := 1336) dL_law_1314 (by decide) (by omega) (fun _ => ?_) (fun q => ?_)
  · refine j_goto hE (tgt := 1453) dL_law_1336 (by decide) ?_
    refine j_widen (k := cells + 4) (n := slots + 24) (by omega) (by omega) ?_
    refine j_less (lo2 := lwL b x i) lwL_less ?_
    exact nx _ _ _ _ hR2 hw2
  · refine j_aload_n hE (i := 3) dL_law_1317 rfl rfl ?_
    refine j_iconst hE (v := nI 0) dL_law_1318 (by decide) ?_
    refine j_lald hE (e233.trans hf) rfl (by omega) (by decide) dL_law_1319 ?_
    rw [hf0 q]
    refine j_iload hE dL_law_1320 rfl ?_
    cases bb with
    | false =>
      refine j_if_eq hE (tgt := 1329) dL_law_1322 (by decide) (fun q2 => ?_) (fun q2 => ?_)
      · refine j_lconst hE (v := 0) dL_law_1329 (by decide) ?_
        refine j_lcmp hE dL_law_1330 ?_
        refine j_if_eq hE (tgt := 1336) dL_law_1331 (by decide) (fun _ => ?_) (fun q3 => absurd ((lg_cmp_eq _ _).mpr (by decide)) q3)
        refine j_goto hE (tgt := 1453) dL_law_1336 (by decide) ?_
        refine j_widen (k := cells + 4) (n := slots + 24) (by omega) (by omega) ?_
        refine j_less (lo2 := lwL b x i) lwL_less ?_
        exact nx _ _ _ _ hR2 hw2
      · exact absurd rfl q2
    | true =>
      refine j_if_eq hE (tgt := 1329) dL_law_1322 (by decide) (fun q2 => ?_) (fun q2 => ?_)
      · exact absurd q2 (by decide)
      · refine j_lconst hE (v := 1) dL_law_1325 (by decide) ?_
        refine j_goto hE (tgt := 1330) dL_law_1326 (by decide) ?_
        refine j_lcmp hE dL_law_1330 ?_
        refine j_if_eq hE (tgt := 1336) dL_law_1331 (by decide) (fun _ => ?_) (fun q3 => absurd ((lg_cmp_eq _ _).mpr (by decide)) q3)
        refine j_goto hE (tgt := 1453) dL_law_1336 (by decide) ?_
        refine j_widen (k := cells + 4) (n := slots + 24) (by omega) (by omega) ?_
        refine j_less (lo2 := lwL b x i) lwL_less ?_
        exact nx _ _ _ _ hR2 hw2
set_option maxRecDepth 100000 in
set_option maxHeartbeats 4000000 in
theorem law_alarms (hE : jC K A E RL cL_law 9 12 438 601024 7293034) (hZ : jScr A E b L xs) (hL : L ≤ 2560) (hi : i + 5 ≤ L) (hR : RelV c v) (hw : lwOk K G x c v) (hc9 : cells + 4 ≤ 601024) (hs9 : slots + 24 ≤ 7293034) (nx : lwN K A E b x cells slots i) : J K A E 9 G hs cells slots 1339 (lwL b x i) [] := by
  obtain ⟨kk, bb, c2, v2, hkk, hR2, hth, hH, hM⟩ := OP_alarms (K := K) (x := x) hR (xs (i + 1))
  dsimp only at hH hM
  refine j_aload_n hE (i := 1) dL_law_1339 rfl rfl ?_
  refine j_aload_n hE (i := 0) dL_law_1340 rfl rfl ?_
  refine j_iload hE dL_law_1341 rfl ?_
  refine j_iconst hE (v := nI 1) dL_law_1343 (by decide) ?_
  refine j_iaddN hE dL_law_1344 ?_
  refine j_sld hE hZ rfl (by omega) hL dL_law_1345 ?_
  refine j_aload_n hE (i := 3) dL_law_1346 rfl rfl ?_
  refine j_cSWi hE swL_162 (fun l hl => hH l hl G hs hw) rfl rfl (Nat.le_of_ble_eq_true rfl) (by decide) (by decide) (by omega) (by omega) dL_law_1347 (fun r G1 hs1 hp => ?_)
  obtain ⟨rfl, hw1, f, hf, hf0⟩ := hp
  refine j_ist6 hE dL_law_1350 (by decide) rfl ?_
  refine j_aload_n hE (i := 2) dL_law_1352 rfl rfl ?_
  refine j_aload_n hE (i := 0) dL_law_1353 rfl rfl ?_
  refine j_iload hE dL_law_1354 rfl ?_
  refine j_iconst hE (v := nI 1) dL_law_1356 (by decide) ?_
  refine j_iaddN hE dL_law_1357 ?_
  refine j_sld hE hZ rfl (by omega) hL dL_law_1358 ?_
  refine j_cVi hE mlL_164 hw1.m0 (fun l hl => hM l hl G1 hs1 hw1) rfl rfl (Nat.le_of_ble_eq_true rfl) (by decide) (by decide) (by omega) (by omega) dL_law_1359 (fun r2 G2 hs2 hp2 => ?_) (fun _ _ h => h.elim)
  obtain ⟨e2, e3⟩ := hp2
  subst e2
  obtain ⟨hw2, e233, e234⟩ := hw1.md e3
  refine j_ist7 hE dL_law_1362 (by decide) rfl ?_
  refine j_aload_n hE (i := 2) dL_law_1364 rfl rfl ?_
  refine j_cVi hE mlL_92 hw2.m0 (lw_thrown hw2) rfl rfl (Nat.le_of_ble_eq_true rfl) (by decide) (by decide) (by omega) (by omega) dL_law_1365 (fun r3 G3 hs3 hp3 => ?_) (fun _ _ h => h.elim)
  obtain ⟨e4, e5⟩ := hp3
  subst e5
  rw [hth] at e4
  subst e4
  refine j_iload hE dL_law_1368 rfl ?_
  refine j_ic_eqN hE (tgt := 1375) dL_law_1370 (by decide) (by omega) (by omega) (fun _ => ?_) (fun q => absurd rfl q)
  refine j_iload hE dL_law_1375 rfl ?_
  refine j_if_neN hE (tgt := 1392) dL_law_1377 (by decide) (by omega) (fun _ => ?_) (fun q => ?_)
  · refine j_goto hE (tgt := 1453) dL_law_1392 (by decide) ?_
    refine j_widen (k := cells + 4) (n := slots + 24) (by omega) (by omega) ?_
    refine j_less (lo2 := lwL b x i) lwL_less ?_
    exact nx _ _ _ _ hR2 hw2
  · refine j_aload_n hE (i := 3) dL_law_1380 rfl rfl ?_
    refine j_iconst hE (v := nI 0) dL_law_1381 (by decide) ?_
    refine j_lald hE (e233.trans hf) rfl (by omega) (by decide) dL_law_1382 ?_
    rw [hf0 q]
    refine j_iload hE dL_law_1383 rfl ?_
    refine j_i2l hE dL_law_1385 ?_
    refine j_lcmp hE dL_law_1386 ?_
    refine j_if_eq hE (tgt := 1392) dL_law_1387 (by decide) (fun _ => ?_) (fun q2 => absurd ((lg_cmp_eq _ _).mpr rfl) q2)
    refine j_goto hE (tgt := 1453) dL_law_1392 (by decide) ?_
    refine j_widen (k := cells + 4) (n := slots + 24) (by omega) (by omega) ?_
    refine j_less (lo2 := lwL b x i) lwL_less ?_
    exact nx _ _ _ _ hR2 hw2
set_option maxRecDepth 100000 in
set_option maxHeartbeats 4000000 in
theorem law_undo (hE : jC K A E RL cL_law 9 12 438 601024 7293034) (hZ : jScr A E b L xs) (hL : L ≤ 2560) (hi : i + 5 ≤ L) (hR : RelV c v) (hw : lwOk K G x c v) (hc9 : cells + 4 ≤ 601024) (hs9 : slots + 24 ≤ 7293034) (nx : lwN K A E b x cells slots i) : J K A E 9 G hs cells slots 1395 (lwL b x i) [] := by
  obtain ⟨kk, bb, c2, v2, hkk, hR2, hth, hH, hM⟩ := OP_undo (K := K) (x := x) hR
  dsimp only at hH hM
  refine j_aload_n hE (i := 1) dL_law_1395 rfl rfl ?_
  refine j_aload_n hE (i := 3) dL_law_1396 rfl rfl ?_
  refine j_cSWi hE swL_165 (fun l hl => hH l hl G hs hw) rfl rfl (Nat.le_of_ble_eq_true rfl) (by decide) (by decide) (by omega) (by omega) dL_law_1397 (fun r G1 hs1 hp => ?_)
  obtain ⟨rfl, hw1, f, hf, hf0⟩ := hp
  refine j_ist6 hE dL_law_1400 (by decide) rfl ?_
  refine j_aload_n hE (i := 2) dL_law_1402 rfl rfl ?_
  refine j_cVi hE mlL_168 hw1.m0 (fun l hl => hM l hl G1 hs1 hw1) rfl rfl (Nat.le_of_ble_eq_true rfl) (by decide) (by decide) (by omega) (by omega) dL_law_1403 (fun r2 G2 hs2 hp2 => ?_) (fun _ _ h => h.elim)
  obtain ⟨e2, e3⟩ := hp2
  subst e2
  obtain ⟨hw2, e233, e234⟩ := hw1.md e3
  refine j_ist7 hE dL_law_1406 (by decide) rfl ?_
  refine j_aload_n hE (i := 2) dL_law_1408 rfl rfl ?_
  refine j_cVi hE mlL_92 hw2.m0 (lw_thrown hw2) rfl rfl (Nat.le_of_ble_eq_true rfl) (by decide) (by decide) (by omega) (by omega) dL_law_1409 (fun r3 G3 hs3 hp3 => ?_) (fun _ _ h => h.elim)
  obtain ⟨e4, e5⟩ := hp3
  subst e5
  rw [hth] at e4
  subst e4
  refine j_iload hE dL_law_1412 rfl ?_
  refine j_ic_eqN hE (tgt := 1419) dL_law_1414 (by decide) (by omega) (by omega) (fun _ => ?_) (fun q => absurd rfl q)
  refine j_iload hE dL_law_1419 rfl ?_
  refine j_if_neN hE (tgt := 1436) dL_law_1421 (by decide) (by omega) (fun _ => ?_) (fun q => ?_)
  · refine j_goto hE (tgt := 1453) dL_law_1436 (by decide) ?_
    refine j_widen (k := cells + 4) (n := slots + 24) (by omega) (by omega) ?_
    refine j_less (lo2 := lwL b x i) lwL_less ?_
    exact nx _ _ _ _ hR2 hw2
  · refine j_aload_n hE (i := 3) dL_law_1424 rfl rfl ?_
    refine j_iconst hE (v := nI 0) dL_law_1425 (by decide) ?_
    refine j_lald hE (e233.trans hf) rfl (by omega) (by decide) dL_law_1426 ?_
    rw [hf0 q]
    refine j_iload hE dL_law_1427 rfl ?_
    refine j_i2l hE dL_law_1429 ?_
    refine j_lcmp hE dL_law_1430 ?_
    refine j_if_eq hE (tgt := 1436) dL_law_1431 (by decide) (fun _ => ?_) (fun q2 => absurd ((lg_cmp_eq _ _).mpr rfl) q2)
    refine j_goto hE (tgt := 1453) dL_law_1436 (by decide) ?_
    refine j_widen (k := cells + 4) (n := slots + 24) (by omega) (by omega) ?_
    refine j_less (lo2 := lwL b x i) lwL_less ?_
    exact nx _ _ _ _ hR2 hw2
set_option maxRecDepth 100000 in
set_option maxHeartbeats 4000000 in
theorem law_digest (hE : jC K A E RL cL_law 9 12 438 601024 7293034) (hZ : jScr A E b L xs) (hL : L ≤ 2560) (hi : i + 5 ≤ L) (hR : RelV c v) (hw : lwOk K G x c v) (hc9 : cells + 4 ≤ 601024) (hs9 : slots + 24 ≤ 7293034) (nx : lwN K A E b x cells slots i) : J K A E 9 G hs cells slots 1439 (lwL b x i) [] := by
  obtain ⟨bb, hH, hM⟩ := OP_digest (K := K) (x := x) hR
  dsimp only at hH hM
  refine j_aload_n hE (i := 1) dL_law_1439 rfl rfl ?_
  refine j_cVl hE mlL_169 hw.1.f0 (fun l hl => hH l hl G hs hw) rfl rfl (Nat.le_of_ble_eq_true rfl) (by decide) (by decide) (by omega) (by omega) dL_law_1440 (fun r G1 hs1 hp => ?_) (fun _ _ h => h.elim)
  obtain ⟨rfl, hw1⟩ := hp
  refine j_aload_n hE (i := 2) dL_law_1443 rfl rfl ?_
  refine j_cVl hE mlL_173 hw1.m0 (fun l hl => hM l hl G1 hs1 hw1) rfl rfl (Nat.le_of_ble_eq_true rfl) (by decide) (by decide) (by omega) (by omega) dL_law_1444 (fun r2 G2 hs2 hp2 => ?_) (fun _ _ h => h.elim)
  obtain ⟨e2, v2, hR2, hw2⟩ := hp2
  subst e2
  refine j_lcmp hE dL_law_1447 ?_
  refine j_if_eq hE (tgt := 1453) dL_law_1448 (by decide) (fun _ => ?_) (fun q => absurd ((lg_cmp_eq _ _).mpr rfl) q)
  refine j_widen (k := cells + 4) (n := slots + 24) (by omega) (by omega) ?_
  refine j_less (lo2 := lwL b x i) lwL_less ?_
  exact nx _ _ _ _ hR2 hw2
end LC2
