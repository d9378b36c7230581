/-! ===== the law: its loop ===== -/
theorem hN_and31 (x : Int32) : x &&& nI 31 = nI (hN x % 32) := pk_and x 5 (by decide)
section LL
variable {K : jK} {A : Nat → Prop} {E : jE} {b L : Nat} {xs : Nat → Int32} {x : Nat}
/-- the law's end -/
def lwE (K : jK) (A : Nat → Prop) (E : jE) : Prop := ∀ (G : GH) (hs cells slots : Nat) (lo : List (Option Value)), cells ≤ 601024 → slots ≤ 7293034 → J K A E 9 G hs cells slots 1459 lo []
set_option maxRecDepth 100000 in
set_option maxHeartbeats 4000000 in
theorem law_stop (hE : jC K A E RL cL_law 9 12 438 601024 7293034) (hZ : jScr A E b L xs) (hL : L ≤ 2560) (hend : lwE K A E) {i : Nat} (hi : i ≤ 2600) (hi9 : L < i + 5) {G : GH} {hs cells slots : Nat} (hc9 : cells ≤ 601024) (hs9 : slots ≤ 7293034) : J K A E 9 G hs cells slots 28 (lwL b x i) [] := by
  refine j_iload hE dL_law_28 rfl ?_
  refine j_aload_n hE (i := 0) dL_law_30 rfl rfl ?_
  refine j_slen hE hZ dL_law_31 ?_
  refine j_iconst hE (v := nI 5) dL_law_32 (by decide) ?_
  by_cases h5 : 5 ≤ L
  · refine j_isubN hE dL_law_33 h5 ?_
    refine j_ic_gtN hE (tgt := 1459) dL_law_34 (by decide) (by omega) (by omega) (fun _ => ?_) (fun q => ?_)
    · exact hend _ _ _ _ _ hc9 hs9
    · exfalso; omega
  · refine j_isub hE dL_law_33 ?_
    refine j_ic_gt hE (tgt := 1459) dL_law_34 (by decide) (fun _ => ?_) (fun q => ?_)
    · exact hend _ _ _ _ _ hc9 hs9
    · exfalso
      have q1 := Int32.le_iff_toInt_le.mp (Int32.not_lt.mp q)
      rw [nI_toInt (by omega)] at q1
      have q2 : (nI L - nI 5).toInt < 0 := by
        rcases (show L = 0 ∨ L = 1 ∨ L = 2 ∨ L = 3 ∨ L = 4 by omega) with rfl | rfl | rfl | rfl | rfl <;> decide
      omega
set_option maxRecDepth 100000 in
set_option maxHeartbeats 4000000 in
theorem law_step (hE : jC K A E RL cL_law 9 12 438 601024 7293034) (hZ : jScr A E b L xs) (hL : L ≤ 2560) {i : Nat} (hi : i + 5 ≤ L) {c : FcV} {v : MdV} (hR : RelV c v) {G : GH} {hs cells slots : Nat} (hw : lwOk K G x c v) (hc9 : cells + 4 ≤ 601024) (hs9 : slots + 24 ≤ 7293034) (nx : lwN K A E b x cells slots i) : J K A E 9 G hs cells slots 28 (lwL b x i) [] := by
  refine j_iload hE dL_law_28 rfl ?_
  refine j_aload_n hE (i := 0) dL_law_30 rfl rfl ?_
  refine j_slen hE hZ dL_law_31 ?_
  refine j_iconst hE (v := nI 5) dL_law_32 (by decide) ?_
  refine j_isubN hE dL_law_33 (by omega) ?_
  refine j_ic_gtN hE (tgt := 1459) dL_law_34 (by decide) (by omega) (by omega) (fun q => by exfalso; omega) (fun _ => ?_)
  refine j_aload_n hE (i := 0) dL_law_37 rfl rfl ?_
  refine j_iload hE dL_law_38 rfl ?_
  refine j_sld hE hZ rfl (by omega) hL dL_law_40 ?_
  refine j_bipush hE (v := nI 31) dL_law_41 (by decide) ?_
  refine j_iand hE dL_law_43 ?_
  rw [hN_and31]
  have hj : hN (xs i) % 32 < 32 := Nat.mod_lt _ (by omega)
  generalize hN (xs i) % 32 = j at hj
  by_cases h24 : j < 24
  · rcases (show j = 0 ∨ j = 1 ∨ j = 2 ∨ j = 3 ∨ j = 4 ∨ j = 5 ∨ j = 6 ∨ j = 7 ∨ j = 8 ∨ j = 9 ∨ j = 10 ∨ j = 11 ∨ j = 12 ∨ j = 13 ∨ j = 14 ∨ j = 15 ∨ j = 16 ∨ j = 17 ∨ j = 18 ∨ j = 19 ∨ j = 20 ∨ j = 21 ∨ j = 22 ∨ j = 23 by omega) with rfl | rfl | rfl | rfl | rfl | rfl | rfl | rfl | rfl | rfl | rfl | rfl | rfl | rfl | rfl | rfl | rfl | rfl | rfl | rfl | rfl | rfl | rfl | rfl
    · refine j_tableIn hE (off := 112) (tgt := 156) dL_law_44 (by decide) (by decide) (by decide) (by decide) ?_
      exact law_setFrame hE hZ hL hi hR hw hc9 hs9 nx
    · refine j_tableIn hE (off := 180) (tgt := 224) dL_law_44 (by decide) (by decide) (by decide) (by decide) ?_
      exact law_addParameter hE hZ hL hi hR hw hc9 hs9 nx
    · refine j_tableIn hE (off := 236) (tgt := 280) dL_law_44 (by decide) (by decide) (by decide) (by decide) ?_
      exact law_plan hE hZ hL hi hR hw hc9 hs9 nx
    · refine j_tableIn hE (off := 249) (tgt := 293) dL_law_44 (by decide) (by decide) (by decide) (by decide) ?_
      exact law_samplesPerMajor hE hZ hL hi hR hw hc9 hs9 nx
    · refine j_tableIn hE (off := 305) (tgt := 349) dL_law_44 (by decide) (by decide) (by decide) (by decide) ?_
      exact law_slot hE hZ hL hi hR hw hc9 hs9 nx
    · refine j_tableIn hE (off := 385) (tgt := 429) dL_law_44 (by decide) (by decide) (by decide) (by decide) ?_
      exact law_ownerOf hE hZ hL hi hR hw hc9 hs9 nx
    · refine j_tableIn hE (off := 453) (tgt := 497) dL_law_44 (by decide) (by decide) (by decide) (by decide) ?_
      exact law_efficiency hE hZ hL hi hR hw hc9 hs9 nx
    · refine j_tableIn hE (off := 518) (tgt := 562) dL_law_44 (by decide) (by decide) (by decide) (by decide) ?_
      exact law_setValue hE hZ hL hi hR hw hc9 hs9 nx
    · refine j_tableIn hE (off := 586) (tgt := 630) dL_law_44 (by decide) (by decide) (by decide) (by decide) ?_
      exact law_send hE hZ hL hi hR hw hc9 hs9 nx
    · refine j_tableIn hE (off := 642) (tgt := 686) dL_law_44 (by decide) (by decide) (by decide) (by decide) ?_
      exact law_pending hE hZ hL hi hR hw hc9 hs9 nx
    · refine j_tableIn hE (off := 655) (tgt := 699) dL_law_44 (by decide) (by decide) (by decide) (by decide) ?_
      exact law_bit hE hZ hL hi hR hw hc9 hs9 nx
    · refine j_tableIn hE (off := 711) (tgt := 755) dL_law_44 (by decide) (by decide) (by decide) (by decide) ?_
      exact law_disturb hE hZ hL hi hR hw hc9 hs9 nx
    · refine j_tableIn hE (off := 779) (tgt := 823) dL_law_44 (by decide) (by decide) (by decide) (by decide) ?_
      exact law_receive hE hZ hL hi hR hw hc9 hs9 nx
    · refine j_tableIn hE (off := 835) (tgt := 879) dL_law_44 (by decide) (by decide) (by decide) (by decide) ?_
      exact law_receiverState hE hZ hL hi hR hw hc9 hs9 nx
    · refine j_tableIn hE (off := 848) (tgt := 892) dL_law_44 (by decide) (by decide) (by decide) (by decide) ?_
      exact law_received hE hZ hL hi hR hw hc9 hs9 nx
    · refine j_tableIn hE (off := 904) (tgt := 948) dL_law_44 (by decide) (by decide) (by decide) (by decide) ?_
      exact law_sample hE hZ hL hi hR hw hc9 hs9 nx
    · refine j_tableIn hE (off := 960) (tgt := 1004) dL_law_44 (by decide) (by decide) (by decide) (by decide) ?_
      exact law_samples hE hZ hL hi hR hw hc9 hs9 nx
    · refine j_tableIn hE (off := 1016) (tgt := 1060) dL_law_44 (by decide) (by decide) (by decide) (by decide) ?_
      exact law_setMode hE hZ hL hi hR hw hc9 hs9 nx
    · refine j_tableIn hE (off := 1072) (tgt := 1116) dL_law_44 (by decide) (by decide) (by decide) (by decide) ?_
      exact law_setLimits hE hZ hL hi hR hw hc9 hs9 nx
    · refine j_tableIn hE (off := 1164) (tgt := 1208) dL_law_44 (by decide) (by decide) (by decide) (by decide) ?_
      exact law_setPersistence hE hZ hL hi hR hw hc9 hs9 nx
    · refine j_tableIn hE (off := 1232) (tgt := 1276) dL_law_44 (by decide) (by decide) (by decide) (by decide) ?_
      exact law_hasAlarm hE hZ hL hi hR hw hc9 hs9 nx
    · refine j_tableIn hE (off := 1295) (tgt := 1339) dL_law_44 (by decide) (by decide) (by decide) (by decide) ?_
      exact law_alarms hE hZ hL hi hR hw hc9 hs9 nx
    · refine j_tableIn hE (off := 1351) (tgt := 1395) dL_law_44 (by decide) (by decide) (by decide) (by decide) ?_
      exact law_undo hE hZ hL hi hR hw hc9 hs9 nx
    · refine j_tableIn hE (off := 1395) (tgt := 1439) dL_law_44 (by decide) (by decide) (by decide) (by decide) ?_
      exact law_digest hE hZ hL hi hR hw hc9 hs9 nx
  · refine j_tableOut hE (tgt := 1453) dL_law_44 (Or.inr ?_) (by decide) ?_
    · rw [nI_toInt (by omega)]
      omega
    · exact j_widen (k := cells + 4) (n := slots + 24) (by omega) (by omega) (nx _ _ _ _ hR hw)
set_option maxRecDepth 100000 in
set_option maxHeartbeats 4000000 in
theorem law_loop (hE : jC K A E RL cL_law 9 12 438 601024 7293034) (hZ : jScr A E b L xs) (hL : L ≤ 2560) (hend : lwE K A E) : ∀ (n t : Nat), t ≤ 512 → L < 5 * t + 5 * (n + 1) → ∀ (c : FcV) (v : MdV) (G : GH) (hs cells slots : Nat), RelV c v → lwOk K G x c v → cells ≤ 235 + 4 * t → slots ≤ 24273 + 24 * t → J K A E 9 G hs cells slots 28 (lwL b x (5 * t)) [] := by
  intro n
  induction n with
  | zero =>
    intro t ht hl c v G hs cells slots hR hw hc hs9
    exact law_stop hE hZ hL hend (by omega) (by omega) (by omega) (by omega)
  | succ n ih =>
    intro t ht hl c v G hs cells slots hR hw hc hs9
    by_cases hi : 5 * t + 5 ≤ L
    · refine law_step hE hZ hL hi hR hw (by omega) (by omega) (fun c' v' G' hs' hR' hw' => ?_)
      refine j_inc5 hE (v := nI (5 * t + 5)) dL_law_1453 (nI_add (5 * t) 5) (by decide) rfl ?_
      refine j_goto hE (tgt := 28) dL_law_1456 (by decide) ?_
      rw [show 5 * t + 5 = 5 * (t + 1) by omega]
      exact ih (t + 1) (by omega) (by omega) c' v' G' hs' _ _ hR' hw' (by omega) (by omega)
    · exact law_stop hE hZ hL hend (by omega) (by omega) (by omega) (by omega)
end LL
