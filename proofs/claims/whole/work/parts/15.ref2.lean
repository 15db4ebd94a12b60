/-! methods walked (by program; wip/whole/gen) -/
-- X7_nextAfter nextAfter(I)I
theorem cw_X7_153 : CWd RX7 153 yX7_clockOf cX7_clockOf 6 (some .double) 1 := ⟨m_ml_X7_153, m_co_X7_clockOf, m_ini_X7, by decide +kernel, by decide +kernel⟩
abbrev rm_X7_nextAfter : Room := { frames := 1, cells := 0, slots := 0, locals := 25 }
def S_X7_nextAfter_4 : Nat → St → Int32 → Int32 → Nat → Int32
  | 0, _, _, _, _ => 0
  | n + 1, σ, p1, v2, j3 => if (σ 55 0) ≤ (nI j3) then v2 else if p1 = (-1) then (if (σ 59 j3) = 2 then (if v2 = (-1) then S_X7_nextAfter_4 n σ p1 (nI j3) (j3 + 1) else if 0 ≤ (Op.cmpValue (FP.dcmp (S_X7_clockOf σ (nI j3)) (S_X7_clockOf σ v2)) CmpOp.g) then S_X7_nextAfter_4 n σ p1 v2 (j3 + 1) else S_X7_nextAfter_4 n σ p1 (nI j3) (j3 + 1)) else S_X7_nextAfter_4 n σ p1 v2 (j3 + 1)) else if 0 < (Op.cmpValue (FP.dcmp (S_X7_clockOf σ (nI j3)) (S_X7_clockOf σ p1)) CmpOp.l) then (if (σ 59 j3) = 2 then (if v2 = (-1) then S_X7_nextAfter_4 n σ p1 (nI j3) (j3 + 1) else if 0 ≤ (Op.cmpValue (FP.dcmp (S_X7_clockOf σ (nI j3)) (S_X7_clockOf σ v2)) CmpOp.g) then S_X7_nextAfter_4 n σ p1 v2 (j3 + 1) else S_X7_nextAfter_4 n σ p1 (nI j3) (j3 + 1)) else S_X7_nextAfter_4 n σ p1 v2 (j3 + 1)) else if (Op.cmpValue (FP.dcmp (S_X7_clockOf σ (nI j3)) (S_X7_clockOf σ p1)) CmpOp.l) = 0 then (if (nI j3) ≤ p1 then (if (σ 59 j3) = 2 then S_X7_nextAfter_4 n σ p1 v2 (j3 + 1) else S_X7_nextAfter_4 n σ p1 v2 (j3 + 1)) else if (σ 59 j3) = 2 then (if v2 = (-1) then S_X7_nextAfter_4 n σ p1 (nI j3) (j3 + 1) else if 0 ≤ (Op.cmpValue (FP.dcmp (S_X7_clockOf σ (nI j3)) (S_X7_clockOf σ v2)) CmpOp.g) then S_X7_nextAfter_4 n σ p1 v2 (j3 + 1) else S_X7_nextAfter_4 n σ p1 (nI j3) (j3 + 1)) else S_X7_nextAfter_4 n σ p1 v2 (j3 + 1)) else if (σ 59 j3) = 2 then S_X7_nextAfter_4 n σ p1 v2 (j3 + 1) else S_X7_nextAfter_4 n σ p1 v2 (j3 + 1)
theorem S_X7_nextAfter_4_s (n : Nat) (σ : St) (p1 : Int32) (v2 : Int32) (j3 : Nat) : S_X7_nextAfter_4 (n + 1) σ p1 v2 j3 = if (σ 55 0) ≤ (nI j3) then v2 else if p1 = (-1) then (if (σ 59 j3) = 2 then (if v2 = (-1) then S_X7_nextAfter_4 n σ p1 (nI j3) (j3 + 1) else if 0 ≤ (Op.cmpValue (FP.dcmp (S_X7_clockOf σ (nI j3)) (S_X7_clockOf σ v2)) CmpOp.g) then S_X7_nextAfter_4 n σ p1 v2 (j3 + 1) else S_X7_nextAfter_4 n σ p1 (nI j3) (j3 + 1)) else S_X7_nextAfter_4 n σ p1 v2 (j3 + 1)) else if 0 < (Op.cmpValue (FP.dcmp (S_X7_clockOf σ (nI j3)) (S_X7_clockOf σ p1)) CmpOp.l) then (if (σ 59 j3) = 2 then (if v2 = (-1) then S_X7_nextAfter_4 n σ p1 (nI j3) (j3 + 1) else if 0 ≤ (Op.cmpValue (FP.dcmp (S_X7_clockOf σ (nI j3)) (S_X7_clockOf σ v2)) CmpOp.g) then S_X7_nextAfter_4 n σ p1 v2 (j3 + 1) else S_X7_nextAfter_4 n σ p1 (nI j3) (j3 + 1)) else S_X7_nextAfter_4 n σ p1 v2 (j3 + 1)) else if (Op.cmpValue (FP.dcmp (S_X7_clockOf σ (nI j3)) (S_X7_clockOf σ p1)) CmpOp.l) = 0 then (if (nI j3) ≤ p1 then (if (σ 59 j3) = 2 then S_X7_nextAfter_4 n σ p1 v2 (j3 + 1) else S_X7_nextAfter_4 n σ p1 v2 (j3 + 1)) else if (σ 59 j3) = 2 then (if v2 = (-1) then S_X7_nextAfter_4 n σ p1 (nI j3) (j3 + 1) else if 0 ≤ (Op.cmpValue (FP.dcmp (S_X7_clockOf σ (nI j3)) (S_X7_clockOf σ v2)) CmpOp.g) then S_X7_nextAfter_4 n σ p1 v2 (j3 + 1) else S_X7_nextAfter_4 n σ p1 (nI j3) (j3 + 1)) else S_X7_nextAfter_4 n σ p1 v2 (j3 + 1)) else if (σ 59 j3) = 2 then S_X7_nextAfter_4 n σ p1 v2 (j3 + 1) else S_X7_nextAfter_4 n σ p1 v2 (j3 + 1) := rfl
set_option maxRecDepth 100000 in
set_option maxHeartbeats 4000000 in
theorem K_X7_nextAfter_4 {p : Program} {l : Launch} {e : Env} {s : State} {m : MethodId} {args : Array Value} {below : List Frame} {meth : Method} {c : Code} {D : va_G} {E : En} {A : Nat → Prop} {post : Int32 → St → Prop} (C : CX p s m meth c cX7_nextAfter RX7 5 D E A) (hr : meth.sig.returnType = some .int) {p1 : Int32} : ∀ (n : Nat) {σ : St} (ok : OK E σ) {v2 : Int32} {j3 : Nat} (a1 : p1 = -1 ∨ vp_in p1 20) (hj : j3 + n = 21) (hb : j3 ≤ 20) (hv : v2 = -1 ∨ vp_in v2 20) {H : Heap} {locs : List Loc} (h : HW D E σ A s H locs) {ls : Array Slot} (hl : lv_has ls 5 [(0, .ref (ead E 15)), (1, .int p1), (2, .int v2), (3, .int (nI j3))]) (hp : post (S_X7_nextAfter_4 n σ p1 v2 j3) σ), W p l e rm_X7_nextAfter s m args below meth c H locs 0 0 (MQ below (va_Qi post (POB D E A) A) args s 0 0 A) (F0 m 4 ls []) := by
  intro n
  induction n with
  | zero =>
    intro σ ok v2 j3 a1 hj hb hv H locs h ls hl hp
    exfalso
    omega
  | succ n ih =>
    intro σ ok v2 j3 a1 hj hb hv H locs h ls hl hp
    refine lv_iload_n C.x C.b dX7_nextAfter_4 rfl (lv_at hl 3 rfl) ?_
    refine lv_aload_n C.x C.b dX7_nextAfter_5 rfl (lv_at hl 0 rfl) ?_
    refine g_X7_81 C h dX7_nextAfter_6 ?_
    refine lv_icmp_ge (tgt := 103) C.x C.b dX7_nextAfter_9 (by decide) (fun c1 => ?_) (fun c1 => ?_)
    · skip
      refine lv_iload_n C.x C.b dX7_nextAfter_103 rfl (lv_at hl 2 rfl) ?_
      exact rtI C h hr rfl dX7_nextAfter_104 (Eq.mp (congrArg (fun z => post z σ) ((S_X7_nextAfter_4_s n σ p1 v2 j3).trans (if_pos c1))) hp)
    · skip
      have h3 : j3 < en E := ok.lt' (by omega) c1
      refine lv_iload_n C.x C.b dX7_nextAfter_12 rfl (lv_at hl 1 rfl) ?_
      refine lv_iconst (v := (-1)) C.x C.b dX7_nextAfter_13 (by decide) ?_
      refine lv_icmp_eq (tgt := 50) C.x C.b dX7_nextAfter_14 (by decide) (fun c2 => ?_) (fun c2 => ?_)
      · skip
        refine lv_iconst (v := 1) C.x C.b dX7_nextAfter_50 (by decide) ?_
        refine lv_goto (tgt := 55) C.x C.b dX7_nextAfter_51 (by decide) ?_
        refine lv_istore (lv' := [(4, .int 1), (0, .ref (ead E 15)), (1, .int p1), (2, .int v2), (3, .int (nI j3))]) C.x C.b dX7_nextAfter_55 hl (by decide) rfl (fun ls hl => ?_)
        refine lv_aload_n C.x C.b dX7_nextAfter_57 rfl (lv_at hl 1 rfl) ?_
        refine g_X7_44 C h dX7_nextAfter_58 ?_
        refine lv_iload_n C.x C.b dX7_nextAfter_61 rfl (lv_at hl 4 rfl) ?_
        refine aln_26 C h (Nat.lt_of_lt_of_le h3 ok.le) dX7_nextAfter_62 ?_
        refine lv_iconst (v := 2) C.x C.b dX7_nextAfter_63 (by decide) ?_
        refine lv_icmp_ne (tgt := 95) C.x C.b dX7_nextAfter_64 (by decide) (fun c3 => ?_) (fun c3 => ?_)
        · skip
          refine lv_iload_n C.x C.b dX7_nextAfter_95 rfl (lv_at hl 3 rfl) ?_
          refine lv_istore_n (lv' := [(2, .int v2), (4, .int 1), (0, .ref (ead E 15)), (1, .int p1), (3, .int (nI j3))]) C.x C.b dX7_nextAfter_96 rfl hl (by decide) rfl (fun ls hl => ?_)
          refine lv_iinc (v := nI (j3 + 1)) (lv' := [(3, .int (nI (j3 + 1))), (2, .int v2), (4, .int 1), (0, .ref (ead E 15)), (1, .int p1)]) C.x C.b dX7_nextAfter_97 hl (k := 4) rfl (nI_1 _) (by decide) rfl (fun ls hl => ?_)
          refine lv_goto (tgt := 4) C.x C.b dX7_nextAfter_100 (by decide) ?_
          exact ih (v2 := v2) (j3 := j3 + 1) ok a1 (by omega) (by have := ok.le; omega) (by first | exact Or.inl rfl | exact hv | exact Or.inr (vp_in_nI (Nat.lt_of_lt_of_le h3 ok.le) (by decide))) h (lv_sub hl [3, 4, 1, 0] rfl) (Eq.mp (congrArg (fun z => post z σ) ((S_X7_nextAfter_4_s n σ p1 v2 j3).trans ((if_neg c1).trans ((if_pos c2).trans (if_neg c3))))) hp)
        · skip
          refine lv_iload C.x C.b dX7_nextAfter_67 (lv_at hl 0 rfl) ?_
          refine lv_if_eq (tgt := 95) C.x C.b dX7_nextAfter_69 (by decide) (fun q => absurd q (by decide)) (fun _ => ?_)
          refine lv_iload_n C.x C.b dX7_nextAfter_72 rfl (lv_at hl 3 rfl) ?_
          refine lv_iconst (v := (-1)) C.x C.b dX7_nextAfter_73 (by decide) ?_
          refine lv_icmp_eq (tgt := 91) C.x C.b dX7_nextAfter_74 (by decide) (fun c5 => ?_) (fun c5 => ?_)
          · skip
            refine lv_iload_n C.x C.b dX7_nextAfter_91 rfl (lv_at hl 4 rfl) ?_
            refine lv_goto (tgt := 96) C.x C.b dX7_nextAfter_92 (by decide) ?_
            refine lv_istore_n (lv' := [(2, .int (nI j3)), (4, .int 1), (0, .ref (ead E 15)), (1, .int p1), (3, .int (nI j3))]) C.x C.b dX7_nextAfter_96 rfl hl (by decide) rfl (fun ls hl => ?_)
            refine lv_iinc (v := nI (j3 + 1)) (lv' := [(3, .int (nI (j3 + 1))), (2, .int (nI j3)), (4, .int 1), (0, .ref (ead E 15)), (1, .int p1)]) C.x C.b dX7_nextAfter_97 hl (k := 4) rfl (nI_1 _) (by decide) rfl (fun ls hl => ?_)
            refine lv_goto (tgt := 4) C.x C.b dX7_nextAfter_100 (by decide) ?_
            exact ih (v2 := nI j3) (j3 := j3 + 1) ok a1 (by omega) (by have := ok.le; omega) (by first | exact Or.inl rfl | exact hv | exact Or.inr (vp_in_nI (Nat.lt_of_lt_of_le h3 ok.le) (by decide))) h (lv_sub hl [3, 4, 1, 0] rfl) (Eq.mp (congrArg (fun z => post z σ) ((S_X7_nextAfter_4_s n σ p1 v2 j3).trans ((if_neg c1).trans ((if_pos c2).trans ((if_pos c3).trans (if_pos c5)))))) hp)
          · skip
            refine lv_aload_n C.x C.b dX7_nextAfter_77 rfl (lv_at hl 1 rfl) ?_
            refine lv_iload_n C.x C.b dX7_nextAfter_78 rfl (lv_at hl 4 rfl) ?_
            refine caVd (As := [.int (nI j3)]) (rest := []) (q0 := 15) (ci := 7) C h (M_X7_clockOf l D E _ ok (nI j3) (vp_in_nI (Nat.lt_of_lt_of_le h3 ok.le) (by decide))) cw_X7_153 m_im_X7_clockOf m_se_X7_clockOf rfl rfl ⟨Nat.le_of_ble_eq_true rfl, Nat.le_of_ble_eq_true rfl⟩ rfl rfl hl rfl (Nat.le_of_ble_eq_true rfl) dX7_nextAfter_79 ⟨Nat.le_of_ble_eq_true rfl, Nat.le_of_ble_eq_true rfl⟩ (fun r u H locs w6 h => ?_)
            obtain ⟨rfl, rfl⟩ := w6
            refine lv_aload_n C.x C.b dX7_nextAfter_82 rfl (lv_at hl 1 rfl) ?_
            refine lv_iload_n C.x C.b dX7_nextAfter_83 rfl (lv_at hl 3 rfl) ?_
            refine caVd (As := [.int v2]) (rest := [.double (S_X7_clockOf σ (nI j3))]) (q0 := 15) (ci := 7) C h (M_X7_clockOf l D E _ ok v2 (hv.resolve_left c5)) cw_X7_153 m_im_X7_clockOf m_se_X7_clockOf rfl rfl ⟨Nat.le_of_ble_eq_true rfl, Nat.le_of_ble_eq_true rfl⟩ rfl rfl hl rfl (Nat.le_of_ble_eq_true rfl) dX7_nextAfter_84 ⟨Nat.le_of_ble_eq_true rfl, Nat.le_of_ble_eq_true rfl⟩ (fun r u H locs w7 h => ?_)
            obtain ⟨rfl, rfl⟩ := w7
            refine lv_dcmp C.x C.b dX7_nextAfter_87 ?_
            refine lv_if_ge (tgt := 95) C.x C.b dX7_nextAfter_88 (by decide) (fun c8 => ?_) (fun c8 => ?_)
            · skip
              refine lv_iload_n C.x C.b dX7_nextAfter_95 rfl (lv_at hl 3 rfl) ?_
              refine lv_istore_n (lv' := [(2, .int v2), (4, .int 1), (0, .ref (ead E 15)), (1, .int p1), (3, .int (nI j3))]) C.x C.b dX7_nextAfter_96 rfl hl (by decide) rfl (fun ls hl => ?_)
              refine lv_iinc (v := nI (j3 + 1)) (lv' := [(3, .int (nI (j3 + 1))), (2, .int v2), (4, .int 1), (0, .ref (ead E 15)), (1, .int p1)]) C.x C.b dX7_nextAfter_97 hl (k := 4) rfl (nI_1 _) (by decide) rfl (fun ls hl => ?_)
              refine lv_goto (tgt := 4) C.x C.b dX7_nextAfter_100 (by decide) ?_
              exact ih (v2 := v2) (j3 := j3 + 1) ok a1 (by omega) (by have := ok.le; omega) (by first | exact Or.inl rfl | exact hv | exact Or.inr (vp_in_nI (Nat.lt_of_lt_of_le h3 ok.le) (by decide))) h (lv_sub hl [3, 4, 1, 0] rfl) (Eq.mp (congrArg (fun z => post z σ) ((S_X7_nextAfter_4_s n σ p1 v2 j3).trans ((if_neg c1).trans ((if_pos c2).trans ((if_pos c3).trans ((if_neg c5).trans (if_pos c8))))))) hp)
            · skip
              refine lv_iload_n C.x C.b dX7_nextAfter_91 rfl (lv_at hl 4 rfl) ?_
              refine lv_goto (tgt := 96) C.x C.b dX7_nextAfter_92 (by decide) ?_
              refine lv_istore_n (lv' := [(2, .int (nI j3)), (4, .int 1), (0, .ref (ead E 15)), (1, .int p1), (3, .int (nI j3))]) C.x C.b dX7_nextAfter_96 rfl hl (by decide) rfl (fun ls hl => ?_)
              refine lv_iinc (v := nI (j3 + 1)) (lv' := [(3, .int (nI (j3 + 1))), (2, .int (nI j3)), (4, .int 1), (0, .ref (ead E 15)), (1, .int p1)]) C.x C.b dX7_nextAfter_97 hl (k := 4) rfl (nI_1 _) (by decide) rfl (fun ls hl => ?_)
              refine lv_goto (tgt := 4) C.x C.b dX7_nextAfter_100 (by decide) ?_
              exact ih (v2 := nI j3) (j3 := j3 + 1) ok a1 (by omega) (by have := ok.le; omega) (by first | exact Or.inl rfl | exact hv | exact Or.inr (vp_in_nI (Nat.lt_of_lt_of_le h3 ok.le) (by decide))) h (lv_sub hl [3, 4, 1, 0] rfl) (Eq.mp (congrArg (fun z => post z σ) ((S_X7_nextAfter_4_s n σ p1 v2 j3).trans ((if_neg c1).trans ((if_pos c2).trans ((if_pos c3).trans ((if_neg c5).trans (if_neg c8))))))) hp)
      · skip
        refine lv_aload_n C.x C.b dX7_nextAfter_17 rfl (lv_at hl 0 rfl) ?_
        refine lv_iload_n C.x C.b dX7_nextAfter_18 rfl (lv_at hl 3 rfl) ?_
        refine caVd (As := [.int (nI j3)]) (rest := []) (q0 := 15) (ci := 7) C h (M_X7_clockOf l D E _ ok (nI j3) (vp_in_nI (Nat.lt_of_lt_of_le h3 ok.le) (by decide))) cw_X7_153 m_im_X7_clockOf m_se_X7_clockOf rfl rfl ⟨Nat.le_of_ble_eq_true rfl, Nat.le_of_ble_eq_true rfl⟩ rfl rfl hl rfl (Nat.le_of_ble_eq_true rfl) dX7_nextAfter_19 ⟨Nat.le_of_ble_eq_true rfl, Nat.le_of_ble_eq_true rfl⟩ (fun r u H locs w9 h => ?_)
        obtain ⟨rfl, rfl⟩ := w9
        refine lv_aload_n C.x C.b dX7_nextAfter_22 rfl (lv_at hl 0 rfl) ?_
        refine lv_iload_n C.x C.b dX7_nextAfter_23 rfl (lv_at hl 1 rfl) ?_
        refine caVd (As := [.int p1]) (rest := [.double (S_X7_clockOf σ (nI j3))]) (q0 := 15) (ci := 7) C h (M_X7_clockOf l D E _ ok p1 (a1.resolve_left c2)) cw_X7_153 m_im_X7_clockOf m_se_X7_clockOf rfl rfl ⟨Nat.le_of_ble_eq_true rfl, Nat.le_of_ble_eq_true rfl⟩ rfl rfl hl rfl (Nat.le_of_ble_eq_true rfl) dX7_nextAfter_24 ⟨Nat.le_of_ble_eq_true rfl, Nat.le_of_ble_eq_true rfl⟩ (fun r u H locs w10 h => ?_)
        obtain ⟨rfl, rfl⟩ := w10
        refine lv_dcmp C.x C.b dX7_nextAfter_27 ?_
        refine lv_if_gt (tgt := 50) C.x C.b dX7_nextAfter_28 (by decide) (fun c11 => ?_) (fun c11 => ?_)
        · skip
          refine lv_iconst (v := 1) C.x C.b dX7_nextAfter_50 (by decide) ?_
          refine lv_goto (tgt := 55) C.x C.b dX7_nextAfter_51 (by decide) ?_
          refine lv_istore (lv' := [(4, .int 1), (0, .ref (ead E 15)), (1, .int p1), (2, .int v2), (3, .int (nI j3))]) C.x C.b dX7_nextAfter_55 hl (by decide) rfl (fun ls hl => ?_)
          refine lv_aload_n C.x C.b dX7_nextAfter_57 rfl (lv_at hl 1 rfl) ?_
          refine g_X7_44 C h dX7_nextAfter_58 ?_
          refine lv_iload_n C.x C.b dX7_nextAfter_61 rfl (lv_at hl 4 rfl) ?_
          refine aln_26 C h (Nat.lt_of_lt_of_le h3 ok.le) dX7_nextAfter_62 ?_
          refine lv_iconst (v := 2) C.x C.b dX7_nextAfter_63 (by decide) ?_
          refine lv_icmp_ne (tgt := 95) C.x C.b dX7_nextAfter_64 (by decide) (fun c12 => ?_) (fun c12 => ?_)
          · skip
            refine lv_iload_n C.x C.b dX7_nextAfter_95 rfl (lv_at hl 3 rfl) ?_
            refine lv_istore_n (lv' := [(2, .int v2), (4, .int 1), (0, .ref (ead E 15)), (1, .int p1), (3, .int (nI j3))]) C.x C.b dX7_nextAfter_96 rfl hl (by decide) rfl (fun ls hl => ?_)
            refine lv_iinc (v := nI (j3 + 1)) (lv' := [(3, .int (nI (j3 + 1))), (2, .int v2), (4, .int 1), (0, .ref (ead E 15)), (1, .int p1)]) C.x C.b dX7_nextAfter_97 hl (k := 4) rfl (nI_1 _) (by decide) rfl (fun ls hl => ?_)
            refine lv_goto (tgt := 4) C.x C.b dX7_nextAfter_100 (by decide) ?_
            exact ih (v2 := v2) (j3 := j3 + 1) ok a1 (by omega) (by have := ok.le; omega) (by first | exact Or.inl rfl | exact hv | exact Or.inr (vp_in_nI (Nat.lt_of_lt_of_le h3 ok.le) (by decide))) h (lv_sub hl [3, 4, 1, 0] rfl) (Eq.mp (congrArg (fun z => post z σ) ((S_X7_nextAfter_4_s n σ p1 v2 j3).trans ((if_neg c1).trans ((if_neg c2).trans ((if_pos c11).trans (if_neg c12)))))) hp)
          · skip
            refine lv_iload C.x C.b dX7_nextAfter_67 (lv_at hl 0 rfl) ?_
            refine lv_if_eq (tgt := 95) C.x C.b dX7_nextAfter_69 (by decide) (fun q => absurd q (by decide)) (fun _ => ?_)
            refine lv_iload_n C.x C.b dX7_nextAfter_72 rfl (lv_at hl 3 rfl) ?_
            refine lv_iconst (v := (-1)) C.x C.b dX7_nextAfter_73 (by decide) ?_
            refine lv_icmp_eq (tgt := 91) C.x C.b dX7_nextAfter_74 (by decide) (fun c14 => ?_) (fun c14 => ?_)
            · skip
              refine lv_iload_n C.x C.b dX7_nextAfter_91 rfl (lv_at hl 4 rfl) ?_
              refine lv_goto (tgt := 96) C.x C.b dX7_nextAfter_92 (by decide) ?_
              refine lv_istore_n (lv' := [(2, .int (nI j3)), (4, .int 1), (0, .ref (ead E 15)), (1, .int p1), (3, .int (nI j3))]) C.x C.b dX7_nextAfter_96 rfl hl (by decide) rfl (fun ls hl => ?_)
              refine lv_iinc (v := nI (j3 + 1)) (lv' := [(3, .int (nI (j3 + 1))), (2, .int (nI j3)), (4, .int 1), (0, .ref (ead E 15)), (1, .int p1)]) C.x C.b dX7_nextAfter_97 hl (k := 4) rfl (nI_1 _) (by decide) rfl (fun ls hl => ?_)
              refine lv_goto (tgt := 4) C.x C.b dX7_nextAfter_100 (by decide) ?_
              exact ih (v2 := nI j3) (j3 := j3 + 1) ok a1 (by omega) (by have := ok.le; omega) (by first | exact Or.inl rfl | exact hv | exact Or.inr (vp_in_nI (Nat.lt_of_lt_of_le h3 ok.le) (by decide))) h (lv_sub hl [3, 4, 1, 0] rfl) (Eq.mp (congrArg (fun z => post z σ) ((S_X7_nextAfter_4_s n σ p1 v2 j3).trans ((if_neg c1).trans ((if_neg c2).trans ((if_pos c11).trans ((if_pos c12).trans (if_pos c14))))))) hp)
            · skip
              refine lv_aload_n C.x C.b dX7_nextAfter_77 rfl (lv_at hl 1 rfl) ?_
              refine lv_iload_n C.x C.b dX7_nextAfter_78 rfl (lv_at hl 4 rfl) ?_
              refine caVd (As := [.int (nI j3)]) (rest := []) (q0 := 15) (ci := 7) C h (M_X7_clockOf l D E _ ok (nI j3) (vp_in_nI (Nat.lt_of_lt_of_le h3 ok.le) (by decide))) cw_X7_153 m_im_X7_clockOf m_se_X7_clockOf rfl rfl ⟨Nat.le_of_ble_eq_true rfl, Nat.le_of_ble_eq_true rfl⟩ rfl rfl hl rfl (Nat.le_of_ble_eq_true rfl) dX7_nextAfter_79 ⟨Nat.le_of_ble_eq_true rfl, Nat.le_of_ble_eq_true rfl⟩ (fun r u H locs w15 h => ?_)
              obtain ⟨rfl, rfl⟩ := w15
              refine lv_aload_n C.x C.b dX7_nextAfter_82 rfl (lv_at hl 1 rfl) ?_
              refine lv_iload_n C.x C.b dX7_nextAfter_83 rfl (lv_at hl 3 rfl) ?_
              refine caVd (As := [.int v2]) (rest := [.double (S_X7_clockOf σ (nI j3))]) (q0 := 15) (ci := 7) C h (M_X7_clockOf l D E _ ok v2 (hv.resolve_left c14)) cw_X7_153 m_im_X7_clockOf m_se_X7_clockOf rfl rfl ⟨Nat.le_of_ble_eq_true rfl, Nat.le_of_ble_eq_true rfl⟩ rfl rfl hl rfl (Nat.le_of_ble_eq_true rfl) dX7_nextAfter_84 ⟨Nat.le_of_ble_eq_true rfl, Nat.le_of_ble_eq_true rfl⟩ (fun r u H locs w16 h => ?_)
              obtain ⟨rfl, rfl⟩ := w16
              refine lv_dcmp C.x C.b dX7_nextAfter_87 ?_
              refine lv_if_ge (tgt := 95) C.x C.b dX7_nextAfter_88 (by decide) (fun c17 => ?_) (fun c17 => ?_)
              · skip
                refine lv_iload_n C.x C.b dX7_nextAfter_95 rfl (lv_at hl 3 rfl) ?_
                refine lv_istore_n (lv' := [(2, .int v2), (4, .int 1), (0, .ref (ead E 15)), (1, .int p1), (3, .int (nI j3))]) C.x C.b dX7_nextAfter_96 rfl hl (by decide) rfl (fun ls hl => ?_)
                refine lv_iinc (v := nI (j3 + 1)) (lv' := [(3, .int (nI (j3 + 1))), (2, .int v2), (4, .int 1), (0, .ref (ead E 15)), (1, .int p1)]) C.x C.b dX7_nextAfter_97 hl (k := 4) rfl (nI_1 _) (by decide) rfl (fun ls hl => ?_)
                refine lv_goto (tgt := 4) C.x C.b dX7_nextAfter_100 (by decide) ?_
                exact ih (v2 := v2) (j3 := j3 + 1) ok a1 (by omega) (by have := ok.le; omega) (by first | exact Or.inl rfl | exact hv | exact Or.inr (vp_in_nI (Nat.lt_of_lt_of_le h3 ok.le) (by decide))) h (lv_sub hl [3, 4, 1, 0] rfl) (Eq.mp (congrArg (fun z => post z σ) ((S_X7_nextAfter_4_s n σ p1 v2 j3).trans ((if_neg c1).trans ((if_neg c2).trans ((if_pos c11).trans ((if_pos c12).trans ((if_neg c14).trans (if_pos c17)))))))) hp)
              · skip
                refine lv_iload_n C.x C.b dX7_nextAfter_91 rfl (lv_at hl 4 rfl) ?_
                refine lv_goto (tgt := 96) C.x C.b dX7_nextAfter_92 (by decide) ?_
                refine lv_istore_n (lv' := [(2, .int (nI j3)), (4, .int 1), (0, .ref (ead E 15)), (1, .int p1), (3, .int (nI j3))]) C.x C.b dX7_nextAfter_96 rfl hl (by decide) rfl (fun ls hl => ?_)
                refine lv_iinc (v := nI (j3 + 1)) (lv' := [(3, .int (nI (j3 + 1))), (2, .int (nI j3)), (4, .int 1), (0, .ref (ead E 15)), (1, .int p1)]) C.x C.b dX7_nextAfter_97 hl (k := 4) rfl (nI_1 _) (by decide) rfl (fun ls hl => ?_)
                refine lv_goto (tgt := 4) C.x C.b dX7_nextAfter_100 (by decide) ?_
                exact ih (v2 := nI j3) (j3 := j3 + 1) ok a1 (by omega) (by have := ok.le; omega) (by first | exact Or.inl rfl | exact hv | exact Or.inr (vp_in_nI (Nat.lt_of_lt_of_le h3 ok.le) (by decide))) h (lv_sub hl [3, 4, 1, 0] rfl) (Eq.mp (congrArg (fun z => post z σ) ((S_X7_nextAfter_4_s n σ p1 v2 j3).trans ((if_neg c1).trans ((if_neg c2).trans ((if_pos c11).trans ((if_pos c12).trans ((if_neg c14).trans (if_neg c17)))))))) hp)
        · skip
          refine lv_aload_n C.x C.b dX7_nextAfter_31 rfl (lv_at hl 0 rfl) ?_
          refine lv_iload_n C.x C.b dX7_nextAfter_32 rfl (lv_at hl 3 rfl) ?_
          refine caVd (As := [.int (nI j3)]) (rest := []) (q0 := 15) (ci := 7) C h (M_X7_clockOf l D E _ ok (nI j3) (vp_in_nI (Nat.lt_of_lt_of_le h3 ok.le) (by decide))) cw_X7_153 m_im_X7_clockOf m_se_X7_clockOf rfl rfl ⟨Nat.le_of_ble_eq_true rfl, Nat.le_of_ble_eq_true rfl⟩ rfl rfl hl rfl (Nat.le_of_ble_eq_true rfl) dX7_nextAfter_33 ⟨Nat.le_of_ble_eq_true rfl, Nat.le_of_ble_eq_true rfl⟩ (fun r u H locs w18 h => ?_)
          obtain ⟨rfl, rfl⟩ := w18
          refine lv_aload_n C.x C.b dX7_nextAfter_36 rfl (lv_at hl 0 rfl) ?_
          refine lv_iload_n C.x C.b dX7_nextAfter_37 rfl (lv_at hl 1 rfl) ?_
          refine caVd (As := [.int p1]) (rest := [.double (S_X7_clockOf σ (nI j3))]) (q0 := 15) (ci := 7) C h (M_X7_clockOf l D E _ ok p1 (a1.resolve_left c2)) cw_X7_153 m_im_X7_clockOf m_se_X7_clockOf rfl rfl ⟨Nat.le_of_ble_eq_true rfl, Nat.le_of_ble_eq_true rfl⟩ rfl rfl hl rfl (Nat.le_of_ble_eq_true rfl) dX7_nextAfter_38 ⟨Nat.le_of_ble_eq_true rfl, Nat.le_of_ble_eq_true rfl⟩ (fun r u H locs w19 h => ?_)
          obtain ⟨rfl, rfl⟩ := w19
          refine lv_dcmp C.x C.b dX7_nextAfter_41 ?_
          refine lv_if_ne (tgt := 54) C.x C.b dX7_nextAfter_42 (by decide) (fun c20 => ?_) (fun c20 => ?_)
          · skip
            refine lv_iconst (v := 0) C.x C.b dX7_nextAfter_54 (by decide) ?_
            refine lv_istore (lv' := [(4, .int 0), (0, .ref (ead E 15)), (1, .int p1), (2, .int v2), (3, .int (nI j3))]) C.x C.b dX7_nextAfter_55 hl (by decide) rfl (fun ls hl => ?_)
            refine lv_aload_n C.x C.b dX7_nextAfter_57 rfl (lv_at hl 1 rfl) ?_
            refine g_X7_44 C h dX7_nextAfter_58 ?_
            refine lv_iload_n C.x C.b dX7_nextAfter_61 rfl (lv_at hl 4 rfl) ?_
            refine aln_26 C h (Nat.lt_of_lt_of_le h3 ok.le) dX7_nextAfter_62 ?_
            refine lv_iconst (v := 2) C.x C.b dX7_nextAfter_63 (by decide) ?_
            refine lv_icmp_ne (tgt := 95) C.x C.b dX7_nextAfter_64 (by decide) (fun c21 => ?_) (fun c21 => ?_)
            · skip
              refine lv_iload_n C.x C.b dX7_nextAfter_95 rfl (lv_at hl 3 rfl) ?_
              refine lv_istore_n (lv' := [(2, .int v2), (4, .int 0), (0, .ref (ead E 15)), (1, .int p1), (3, .int (nI j3))]) C.x C.b dX7_nextAfter_96 rfl hl (by decide) rfl (fun ls hl => ?_)
              refine lv_iinc (v := nI (j3 + 1)) (lv' := [(3, .int (nI (j3 + 1))), (2, .int v2), (4, .int 0), (0, .ref (ead E 15)), (1, .int p1)]) C.x C.b dX7_nextAfter_97 hl (k := 4) rfl (nI_1 _) (by decide) rfl (fun ls hl => ?_)
              refine lv_goto (tgt := 4) C.x C.b dX7_nextAfter_100 (by decide) ?_
              exact ih (v2 := v2) (j3 := j3 + 1) ok a1 (by omega) (by have := ok.le; omega) (by first | exact Or.inl rfl | exact hv | exact Or.inr (vp_in_nI (Nat.lt_of_lt_of_le h3 ok.le) (by decide))) h (lv_sub hl [3, 4, 1, 0] rfl) (Eq.mp (congrArg (fun z => post z σ) ((S_X7_nextAfter_4_s n σ p1 v2 j3).trans ((if_neg c1).trans ((if_neg c2).trans ((if_neg c11).trans ((if_neg c20).trans (if_neg c21))))))) hp)
            · skip
              refine lv_iload C.x C.b dX7_nextAfter_67 (lv_at hl 0 rfl) ?_
              refine lv_if_eq (tgt := 95) C.x C.b dX7_nextAfter_69 (by decide) (fun _ => ?_) (fun q => absurd q (by decide))
              refine lv_iload_n C.x C.b dX7_nextAfter_95 rfl (lv_at hl 3 rfl) ?_
              refine lv_istore_n (lv' := [(2, .int v2), (4, .int 0), (0, .ref (ead E 15)), (1, .int p1), (3, .int (nI j3))]) C.x C.b dX7_nextAfter_96 rfl hl (by decide) rfl (fun ls hl => ?_)
              refine lv_iinc (v := nI (j3 + 1)) (lv' := [(3, .int (nI (j3 + 1))), (2, .int v2), (4, .int 0), (0, .ref (ead E 15)), (1, .int p1)]) C.x C.b dX7_nextAfter_97 hl (k := 4) rfl (nI_1 _) (by decide) rfl (fun ls hl => ?_)
              refine lv_goto (tgt := 4) C.x C.b dX7_nextAfter_100 (by decide) ?_
              exact ih (v2 := v2) (j3 := j3 + 1) ok a1 (by omega) (by have := ok.le; omega) (by first | exact Or.inl rfl | exact hv | exact Or.inr (vp_in_nI (Nat.lt_of_lt_of_le h3 ok.le) (by decide))) h (lv_sub hl [3, 4, 1, 0] rfl) (Eq.mp (congrArg (fun z => post z σ) ((S_X7_nextAfter_4_s n σ p1 v2 j3).trans ((if_neg c1).trans ((if_neg c2).trans ((if_neg c11).trans ((if_neg c20).trans (if_pos c21))))))) hp)
          · skip
            refine lv_iload_n C.x C.b dX7_nextAfter_45 rfl (lv_at hl 3 rfl) ?_
            refine lv_iload_n C.x C.b dX7_nextAfter_46 rfl (lv_at hl 1 rfl) ?_
            refine lv_icmp_le (tgt := 54) C.x C.b dX7_nextAfter_47 (by decide) (fun c23 => ?_) (fun c23 => ?_)
            · skip
              refine lv_iconst (v := 0) C.x C.b dX7_nextAfter_54 (by decide) ?_
              refine lv_istore (lv' := [(4, .int 0), (0, .ref (ead E 15)), (1, .int p1), (2, .int v2), (3, .int (nI j3))]) C.x C.b dX7_nextAfter_55 hl (by decide) rfl (fun ls hl => ?_)
              refine lv_aload_n C.x C.b dX7_nextAfter_57 rfl (lv_at hl 1 rfl) ?_
              refine g_X7_44 C h dX7_nextAfter_58 ?_
              refine lv_iload_n C.x C.b dX7_nextAfter_61 rfl (lv_at hl 4 rfl) ?_
              refine aln_26 C h (Nat.lt_of_lt_of_le h3 ok.le) dX7_nextAfter_62 ?_
              refine lv_iconst (v := 2) C.x C.b dX7_nextAfter_63 (by decide) ?_
              refine lv_icmp_ne (tgt := 95) C.x C.b dX7_nextAfter_64 (by decide) (fun c24 => ?_) (fun c24 => ?_)
              · skip
                refine lv_iload_n C.x C.b dX7_nextAfter_95 rfl (lv_at hl 3 rfl) ?_
                refine lv_istore_n (lv' := [(2, .int v2), (4, .int 0), (0, .ref (ead E 15)), (1, .int p1), (3, .int (nI j3))]) C.x C.b dX7_nextAfter_96 rfl hl (by decide) rfl (fun ls hl => ?_)
                refine lv_iinc (v := nI (j3 + 1)) (lv' := [(3, .int (nI (j3 + 1))), (2, .int v2), (4, .int 0), (0, .ref (ead E 15)), (1, .int p1)]) C.x C.b dX7_nextAfter_97 hl (k := 4) rfl (nI_1 _) (by decide) rfl (fun ls hl => ?_)
                refine lv_goto (tgt := 4) C.x C.b dX7_nextAfter_100 (by decide) ?_
                exact ih (v2 := v2) (j3 := j3 + 1) ok a1 (by omega) (by have := ok.le; omega) (by first | exact Or.inl rfl | exact hv | exact Or.inr (vp_in_nI (Nat.lt_of_lt_of_le h3 ok.le) (by decide))) h (lv_sub hl [3, 4, 1, 0] rfl) (Eq.mp (congrArg (fun z => post z σ) ((S_X7_nextAfter_4_s n σ p1 v2 j3).trans ((if_neg c1).trans ((if_neg c2).trans ((if_neg c11).trans ((if_pos c20).trans ((if_pos c23).trans (if_neg c24)))))))) hp)
              · skip
                refine lv_iload C.x C.b dX7_nextAfter_67 (lv_at hl 0 rfl) ?_
                refine lv_if_eq (tgt := 95) C.x C.b dX7_nextAfter_69 (by decide) (fun _ => ?_) (fun q => absurd q (by decide))
                refine lv_iload_n C.x C.b dX7_nextAfter_95 rfl (lv_at hl 3 rfl) ?_
                refine lv_istore_n (lv' := [(2, .int v2), (4, .int 0), (0, .ref (ead E 15)), (1, .int p1), (3, .int (nI j3))]) C.x C.b dX7_nextAfter_96 rfl hl (by decide) rfl (fun ls hl => ?_)
                refine lv_iinc (v := nI (j3 + 1)) (lv' := [(3, .int (nI (j3 + 1))), (2, .int v2), (4, .int 0), (0, .ref (ead E 15)), (1, .int p1)]) C.x C.b dX7_nextAfter_97 hl (k := 4) rfl (nI_1 _) (by decide) rfl (fun ls hl => ?_)
                refine lv_goto (tgt := 4) C.x C.b dX7_nextAfter_100 (by decide) ?_
                exact ih (v2 := v2) (j3 := j3 + 1) ok a1 (by omega) (by have := ok.le; omega) (by first | exact Or.inl rfl | exact hv | exact Or.inr (vp_in_nI (Nat.lt_of_lt_of_le h3 ok.le) (by decide))) h (lv_sub hl [3, 4, 1, 0] rfl) (Eq.mp (congrArg (fun z => post z σ) ((S_X7_nextAfter_4_s n σ p1 v2 j3).trans ((if_neg c1).trans ((if_neg c2).trans ((if_neg c11).trans ((if_pos c20).trans ((if_pos c23).trans (if_pos c24)))))))) hp)
            · skip
              refine lv_iconst (v := 1) C.x C.b dX7_nextAfter_50 (by decide) ?_
              refine lv_goto (tgt := 55) C.x C.b dX7_nextAfter_51 (by decide) ?_
              refine lv_istore (lv' := [(4, .int 1), (0, .ref (ead E 15)), (1, .int p1), (2, .int v2), (3, .int (nI j3))]) C.x C.b dX7_nextAfter_55 hl (by decide) rfl (fun ls hl => ?_)
              refine lv_aload_n C.x C.b dX7_nextAfter_57 rfl (lv_at hl 1 rfl) ?_
              refine g_X7_44 C h dX7_nextAfter_58 ?_
              refine lv_iload_n C.x C.b dX7_nextAfter_61 rfl (lv_at hl 4 rfl) ?_
              refine aln_26 C h (Nat.lt_of_lt_of_le h3 ok.le) dX7_nextAfter_62 ?_
              refine lv_iconst (v := 2) C.x C.b dX7_nextAfter_63 (by decide) ?_
              refine lv_icmp_ne (tgt := 95) C.x C.b dX7_nextAfter_64 (by decide) (fun c26 => ?_) (fun c26 => ?_)
              · skip
                refine lv_iload_n C.x C.b dX7_nextAfter_95 rfl (lv_at hl 3 rfl) ?_
                refine lv_istore_n (lv' := [(2, .int v2), (4, .int 1), (0, .ref (ead E 15)), (1, .int p1), (3, .int (nI j3))]) C.x C.b dX7_nextAfter_96 rfl hl (by decide) rfl (fun ls hl => ?_)
                refine lv_iinc (v := nI (j3 + 1)) (lv' := [(3, .int (nI (j3 + 1))), (2, .int v2), (4, .int 1), (0, .ref (ead E 15)), (1, .int p1)]) C.x C.b dX7_nextAfter_97 hl (k := 4) rfl (nI_1 _) (by decide) rfl (fun ls hl => ?_)
                refine lv_goto (tgt := 4) C.x C.b dX7_nextAfter_100 (by decide) ?_
                exact ih (v2 := v2) (j3 := j3 + 1) ok a1 (by omega) (by have := ok.le; omega) (by first | exact Or.inl rfl | exact hv | exact Or.inr (vp_in_nI (Nat.lt_of_lt_of_le h3 ok.le) (by decide))) h (lv_sub hl [3, 4, 1, 0] rfl) (Eq.mp (congrArg (fun z => post z σ) ((S_X7_nextAfter_4_s n σ p1 v2 j3).trans ((if_neg c1).trans ((if_neg c2).trans ((if_neg c11).trans ((if_pos c20).trans ((if_neg c23).trans (if_neg c26)))))))) hp)
              · skip
                refine lv_iload C.x C.b dX7_nextAfter_67 (lv_at hl 0 rfl) ?_
                refine lv_if_eq (tgt := 95) C.x C.b dX7_nextAfter_69 (by decide) (fun q => absurd q (by decide)) (fun _ => ?_)
                refine lv_iload_n C.x C.b dX7_nextAfter_72 rfl (lv_at hl 3 rfl) ?_
                refine lv_iconst (v := (-1)) C.x C.b dX7_nextAfter_73 (by decide) ?_
                refine lv_icmp_eq (tgt := 91) C.x C.b dX7_nextAfter_74 (by decide) (fun c28 => ?_) (fun c28 => ?_)
                · skip
                  refine lv_iload_n C.x C.b dX7_nextAfter_91 rfl (lv_at hl 4 rfl) ?_
                  refine lv_goto (tgt := 96) C.x C.b dX7_nextAfter_92 (by decide) ?_
                  refine lv_istore_n (lv' := [(2, .int (nI j3)), (4, .int 1), (0, .ref (ead E 15)), (1, .int p1), (3, .int (nI j3))]) C.x C.b dX7_nextAfter_96 rfl hl (by decide) rfl (fun ls hl => ?_)
                  refine lv_iinc (v := nI (j3 + 1)) (lv' := [(3, .int (nI (j3 + 1))), (2, .int (nI j3)), (4, .int 1), (0, .ref (ead E 15)), (1, .int p1)]) C.x C.b dX7_nextAfter_97 hl (k := 4) rfl (nI_1 _) (by decide) rfl (fun ls hl => ?_)
                  refine lv_goto (tgt := 4) C.x C.b dX7_nextAfter_100 (by decide) ?_
                  exact ih (v2 := nI j3) (j3 := j3 + 1) ok a1 (by omega) (by have := ok.le; omega) (by first | exact Or.inl rfl | exact hv | exact Or.inr (vp_in_nI (Nat.lt_of_lt_of_le h3 ok.le) (by decide))) h (lv_sub hl [3, 4, 1, 0] rfl) (Eq.mp (congrArg (fun z => post z σ) ((S_X7_nextAfter_4_s n σ p1 v2 j3).trans ((if_neg c1).trans ((if_neg c2).trans ((if_neg c11).trans ((if_pos c20).trans ((if_neg c23).trans ((if_pos c26).trans (if_pos c28))))))))) hp)
                · skip
                  refine lv_aload_n C.x C.b dX7_nextAfter_77 rfl (lv_at hl 1 rfl) ?_
                  refine lv_iload_n C.x C.b dX7_nextAfter_78 rfl (lv_at hl 4 rfl) ?_
                  refine caVd (As := [.int (nI j3)]) (rest := []) (q0 := 15) (ci := 7) C h (M_X7_clockOf l D E _ ok (nI j3) (vp_in_nI (Nat.lt_of_lt_of_le h3 ok.le) (by decide))) cw_X7_153 m_im_X7_clockOf m_se_X7_clockOf rfl rfl ⟨Nat.le_of_ble_eq_true rfl, Nat.le_of_ble_eq_true rfl⟩ rfl rfl hl rfl (Nat.le_of_ble_eq_true rfl) dX7_nextAfter_79 ⟨Nat.le_of_ble_eq_true rfl, Nat.le_of_ble_eq_true rfl⟩ (fun r u H locs w29 h => ?_)
                  obtain ⟨rfl, rfl⟩ := w29
                  refine lv_aload_n C.x C.b dX7_nextAfter_82 rfl (lv_at hl 1 rfl) ?_
                  refine lv_iload_n C.x C.b dX7_nextAfter_83 rfl (lv_at hl 3 rfl) ?_
                  refine caVd (As := [.int v2]) (rest := [.double (S_X7_clockOf σ (nI j3))]) (q0 := 15) (ci := 7) C h (M_X7_clockOf l D E _ ok v2 (hv.resolve_left c28)) cw_X7_153 m_im_X7_clockOf m_se_X7_clockOf rfl rfl ⟨Nat.le_of_ble_eq_true rfl, Nat.le_of_ble_eq_true rfl⟩ rfl rfl hl rfl (Nat.le_of_ble_eq_true rfl) dX7_nextAfter_84 ⟨Nat.le_of_ble_eq_true rfl, Nat.le_of_ble_eq_true rfl⟩ (fun r u H locs w30 h => ?_)
                  obtain ⟨rfl, rfl⟩ := w30
                  refine lv_dcmp C.x C.b dX7_nextAfter_87 ?_
                  refine lv_if_ge (tgt := 95) C.x C.b dX7_nextAfter_88 (by decide) (fun c31 => ?_) (fun c31 => ?_)
                  · skip
                    refine lv_iload_n C.x C.b dX7_nextAfter_95 rfl (lv_at hl 3 rfl) ?_
                    refine lv_istore_n (lv' := [(2, .int v2), (4, .int 1), (0, .ref (ead E 15)), (1, .int p1), (3, .int (nI j3))]) C.x C.b dX7_nextAfter_96 rfl hl (by decide) rfl (fun ls hl => ?_)
                    refine lv_iinc (v := nI (j3 + 1)) (lv' := [(3, .int (nI (j3 + 1))), (2, .int v2), (4, .int 1), (0, .ref (ead E 15)), (1, .int p1)]) C.x C.b dX7_nextAfter_97 hl (k := 4) rfl (nI_1 _) (by decide) rfl (fun ls hl => ?_)
                    refine lv_goto (tgt := 4) C.x C.b dX7_nextAfter_100 (by decide) ?_
                    exact ih (v2 := v2) (j3 := j3 + 1) ok a1 (by omega) (by have := ok.le; omega) (by first | exact Or.inl rfl | exact hv | exact Or.inr (vp_in_nI (Nat.lt_of_lt_of_le h3 ok.le) (by decide))) h (lv_sub hl [3, 4, 1, 0] rfl) (Eq.mp (congrArg (fun z => post z σ) ((S_X7_nextAfter_4_s n σ p1 v2 j3).trans ((if_neg c1).trans ((if_neg c2).trans ((if_neg c11).trans ((if_pos c20).trans ((if_neg c23).trans ((if_pos c26).trans ((if_neg c28).trans (if_pos c31)))))))))) hp)
                  · skip
                    refine lv_iload_n C.x C.b dX7_nextAfter_91 rfl (lv_at hl 4 rfl) ?_
                    refine lv_goto (tgt := 96) C.x C.b dX7_nextAfter_92 (by decide) ?_
                    refine lv_istore_n (lv' := [(2, .int (nI j3)), (4, .int 1), (0, .ref (ead E 15)), (1, .int p1), (3, .int (nI j3))]) C.x C.b dX7_nextAfter_96 rfl hl (by decide) rfl (fun ls hl => ?_)
                    refine lv_iinc (v := nI (j3 + 1)) (lv' := [(3, .int (nI (j3 + 1))), (2, .int (nI j3)), (4, .int 1), (0, .ref (ead E 15)), (1, .int p1)]) C.x C.b dX7_nextAfter_97 hl (k := 4) rfl (nI_1 _) (by decide) rfl (fun ls hl => ?_)
                    refine lv_goto (tgt := 4) C.x C.b dX7_nextAfter_100 (by decide) ?_
                    exact ih (v2 := nI j3) (j3 := j3 + 1) ok a1 (by omega) (by have := ok.le; omega) (by first | exact Or.inl rfl | exact hv | exact Or.inr (vp_in_nI (Nat.lt_of_lt_of_le h3 ok.le) (by decide))) h (lv_sub hl [3, 4, 1, 0] rfl) (Eq.mp (congrArg (fun z => post z σ) ((S_X7_nextAfter_4_s n σ p1 v2 j3).trans ((if_neg c1).trans ((if_neg c2).trans ((if_neg c11).trans ((if_pos c20).trans ((if_neg c23).trans ((if_pos c26).trans ((if_neg c28).trans (if_neg c31)))))))))) hp)
def S_X7_nextAfter (σ : St) (p1 : Int32) : Int32 := S_X7_nextAfter_4 21 σ p1 (-1) 0
set_option maxRecDepth 100000 in
set_option maxHeartbeats 4000000 in
theorem K_X7_nextAfter_0 {p : Program} {l : Launch} {e : Env} {s : State} {m : MethodId} {args : Array Value} {below : List Frame} {meth : Method} {c : Code} {D : va_G} {E : En} {A : Nat → Prop} {post : Int32 → St → Prop} (C : CX p s m meth c cX7_nextAfter RX7 5 D E A) {σ : St} (ok : OK E σ) {p1 : Int32} (a1 : p1 = -1 ∨ vp_in p1 20) {H : Heap} {locs : List Loc} (h : HW D E σ A s H locs) (hr : meth.sig.returnType = some .int) {ls : Array Slot} (hl : lv_has ls 5 [(0, .ref (ead E 15)), (1, .int p1)]) (hp : post (S_X7_nextAfter σ p1) σ) : W p l e rm_X7_nextAfter s m args below meth c H locs 0 0 (MQ below (va_Qi post (POB D E A) A) args s 0 0 A) (F0 m 0 ls []) := by
  refine lv_iconst (v := (-1)) C.x C.b dX7_nextAfter_0 (by decide) ?_
  refine lv_istore_n (lv' := [(2, .int (-1)), (0, .ref (ead E 15)), (1, .int p1)]) C.x C.b dX7_nextAfter_1 rfl hl (by decide) rfl (fun ls hl => ?_)
  refine lv_iconst (v := 0) C.x C.b dX7_nextAfter_2 (by decide) ?_
  refine lv_istore_n (lv' := [(3, .int 0), (2, .int (-1)), (0, .ref (ead E 15)), (1, .int p1)]) C.x C.b dX7_nextAfter_3 rfl hl (by decide) rfl (fun ls hl => ?_)
  exact K_X7_nextAfter_4 C hr 21 (v2 := (-1)) (j3 := 0) ok a1 (by omega) (by have := ok.le; omega) (by first | exact Or.inl rfl | exact hv | exact Or.inr (vp_in_nI (Nat.lt_of_lt_of_le h3 ok.le) (by decide))) h (lv_sub hl [2, 3, 1, 0] rfl) hp
theorem M_X7_nextAfter (l : Launch) (D : va_G) (E : En) (σ : St) (ok : OK E σ) (p1 : Int32) (a1 : p1 = -1 ∨ vp_in p1 20) : CO l yX7_nextAfter cX7_nextAfter 5 (some .int) rm_X7_nextAfter [.ref (ead E 15), .int p1] D E σ (fun A => va_Qi (fun r u => (S_X7_nextAfter σ p1) = r ∧ σ = u) (POB D E A) A) 0 0 :=
  CO.of RX7 (by decide +kernel) rfl (Nat.le_of_ble_eq_true rfl) (fun p e s m below meth c A ls C h hr hl => K_X7_nextAfter_0 C ok a1 h hr hl ⟨rfl, rfl⟩)
theorem next_in_4 {E : En} : ∀ (n : Nat) {σ : St} (ok : OK E σ) {p1 v2 : Int32} {j3 : Nat} (hj : j3 + n = 21) (hb : j3 ≤ 20) (hv : v2 = -1 ∨ vp_in v2 20), S_X7_nextAfter_4 n σ p1 v2 j3 = -1 ∨ vp_in (S_X7_nextAfter_4 n σ p1 v2 j3) 20
  | 0, σ, ok, p1, v2, j3, hj, hb, hv => by
    exfalso
    omega
  | n + 1, σ, ok, p1, v2, j3, hj, hb, hv => by
    rw [S_X7_nextAfter_4_s]
    by_cases c : σ 55 0 ≤ nI j3
    · rw [if_pos c]
      exact hv
    · have h3 : j3 < en E := ok.lt' hb c
      have hle := ok.le
      rw [if_neg c]
      (repeat' split) <;> first | exact next_in_4 n ok (by omega) (by omega) hv | exact next_in_4 n ok (by omega) (by omega) (Or.inr (vp_in_nI (Nat.lt_of_lt_of_le h3 ok.le) (by decide)))
theorem next_in {E : En} {σ : St} (ok : OK E σ) (p1 : Int32) : S_X7_nextAfter σ p1 = -1 ∨ vp_in (S_X7_nextAfter σ p1) 20 := next_in_4 21 ok rfl (by decide) (Or.inl rfl)
-- X7_leaves leaves()V
abbrev rm_X7_leaves : Room := { frames := 1, cells := 0, slots := 0, locals := 25 }
def S_X7_leaves_66 (σ : St) (v1 : Int32) : St := if v1 = (-1) then σ else (up2 (up2 σ 59 v1.toNatClampNeg 3) 60 v1.toNatClampNeg (σ 41 0))
set_option maxRecDepth 100000 in
set_option maxHeartbeats 4000000 in
theorem K_X7_leaves_66 {p : Program} {l : Launch} {e : Env} {s : State} {m : MethodId} {args : Array Value} {below : List Frame} {meth : Method} {c : Code} {D : va_G} {E : En} {A : Nat → Prop} {post : St → Prop} (C : CX p s m meth c cX7_leaves RX7 3 D E A) {σ : St} (ok : OK E σ) {v1 : Int32} (hv : v1 = -1 ∨ vp_in v1 20) {H : Heap} {locs : List Loc} (h : HW D E σ A s H locs) (hr : meth.sig.returnType = none) {ls : Array Slot} (hl : lv_has ls 3 [(0, .ref (ead E 15)), (1, .int v1)]) (hp : post (S_X7_leaves_66 σ v1)) : W p l e rm_X7_leaves s m args below meth c H locs 0 0 (MQ below (va_Qv post (POB D E A) A) args s 0 0 A) (F0 m 66 ls []) := by
  refine lv_iload_n C.x C.b dX7_leaves_66 rfl (lv_at hl 1 rfl) ?_
  refine lv_iconst (v := (-1)) C.x C.b dX7_leaves_67 (by decide) ?_
  refine lv_icmp_eq (tgt := 88) C.x C.b dX7_leaves_68 (by decide) (fun c1 => ?_) (fun c1 => ?_)
  · skip
    exact rtV C h hr dX7_leaves_88 (Eq.mp (congrArg (fun z => post z) (if_pos c1)) hp)
  · skip
    refine lv_aload_n C.x C.b dX7_leaves_71 rfl (lv_at hl 0 rfl) ?_
    refine g_X7_44 C h dX7_leaves_72 ?_
    refine lv_iload_n C.x C.b dX7_leaves_75 rfl (lv_at hl 1 rfl) ?_
    refine lv_iconst (v := 3) C.x C.b dX7_leaves_76 (by decide) ?_
    refine as_26 C h (hv.resolve_left c1) dX7_leaves_77 (fun H locs h => ?_)
    refine lv_aload_n C.x C.b dX7_leaves_78 rfl (lv_at hl 0 rfl) ?_
    refine g_X7_47 C h dX7_leaves_79 ?_
    refine lv_iload_n C.x C.b dX7_leaves_82 rfl (lv_at hl 1 rfl) ?_
    refine lv_aload_n C.x C.b dX7_leaves_83 rfl (lv_at hl 0 rfl) ?_
    refine g_X7_100 C h dX7_leaves_84 ?_
    refine as_27 C h (hv.resolve_left c1) dX7_leaves_87 (fun H locs h => ?_)
    exact rtV C h hr dX7_leaves_88 (Eq.mp (congrArg (fun z => post z) (if_neg c1)) hp)
def S_X7_leaves_4 : Nat → St → Int32 → Nat → St
  | 0, σ, _, _ => σ
  | n + 1, σ, v1, j2 => if (σ 55 0) ≤ (nI j2) then S_X7_leaves_66 σ v1 else if (σ 59 j2) = 2 then (if (σ 41 0) < (σ 57 j2) then S_X7_leaves_4 n σ v1 (j2 + 1) else if v1 = (-1) then S_X7_leaves_4 n σ (nI j2) (j2 + 1) else if 0 ≤ (Op.cmpValue (FP.dcmp (S_X7_clockOf σ (nI j2)) (S_X7_clockOf σ v1)) CmpOp.g) then S_X7_leaves_4 n σ v1 (j2 + 1) else S_X7_leaves_4 n σ (nI j2) (j2 + 1)) else S_X7_leaves_4 n σ v1 (j2 + 1)
theorem S_X7_leaves_4_s (n : Nat) (σ : St) (v1 : Int32) (j2 : Nat) : S_X7_leaves_4 (n + 1) σ v1 j2 = if (σ 55 0) ≤ (nI j2) then S_X7_leaves_66 σ v1 else if (σ 59 j2) = 2 then (if (σ 41 0) < (σ 57 j2) then S_X7_leaves_4 n σ v1 (j2 + 1) else if v1 = (-1) then S_X7_leaves_4 n σ (nI j2) (j2 + 1) else if 0 ≤ (Op.cmpValue (FP.dcmp (S_X7_clockOf σ (nI j2)) (S_X7_clockOf σ v1)) CmpOp.g) then S_X7_leaves_4 n σ v1 (j2 + 1) else S_X7_leaves_4 n σ (nI j2) (j2 + 1)) else S_X7_leaves_4 n σ v1 (j2 + 1) := rfl
set_option maxRecDepth 100000 in
set_option maxHeartbeats 4000000 in
theorem K_X7_leaves_4 {p : Program} {l : Launch} {e : Env} {s : State} {m : MethodId} {args : Array Value} {below : List Frame} {meth : Method} {c : Code} {D : va_G} {E : En} {A : Nat → Prop} {post : St → Prop} (C : CX p s m meth c cX7_leaves RX7 3 D E A) (hr : meth.sig.returnType = none) : ∀ (n : Nat) {σ : St} (ok : OK E σ) {v1 : Int32} {j2 : Nat} (hj : j2 + n = 21) (hb : j2 ≤ 20) (hv : v1 = -1 ∨ vp_in v1 20) {H : Heap} {locs : List Loc} (h : HW D E σ A s H locs) {ls : Array Slot} (hl : lv_has ls 3 [(0, .ref (ead E 15)), (1, .int v1), (2, .int (nI j2))]) (hp : post (S_X7_leaves_4 n σ v1 j2)), W p l e rm_X7_leaves s m args below meth c H locs 0 0 (MQ below (va_Qv post (POB D E A) A) args s 0 0 A) (F0 m 4 ls []) := by
  intro n
  induction n with
  | zero =>
    intro σ ok v1 j2 hj hb hv H locs h ls hl hp
    exfalso
    omega
  | succ n ih =>
    intro σ ok v1 j2 hj hb hv H locs h ls hl hp
    refine lv_iload_n C.x C.b dX7_leaves_4 rfl (lv_at hl 2 rfl) ?_
    refine lv_aload_n C.x C.b dX7_leaves_5 rfl (lv_at hl 0 rfl) ?_
    refine g_X7_81 C h dX7_leaves_6 ?_
    refine lv_icmp_ge (tgt := 66) C.x C.b dX7_leaves_9 (by decide) (fun c1 => ?_) (fun c1 => ?_)
    · skip
      exact K_X7_leaves_66 (v1 := v1) C ok hv h hr (lv_sub hl [0, 1] rfl) (Eq.mp (congrArg (fun z => post z) ((S_X7_leaves_4_s n σ v1 j2).trans (if_pos c1))) hp)
    · skip
      have h2 : j2 < en E := ok.lt' (by omega) c1
      refine lv_aload_n C.x C.b dX7_leaves_12 rfl (lv_at hl 0 rfl) ?_
      refine g_X7_44 C h dX7_leaves_13 ?_
      refine lv_iload_n C.x C.b dX7_leaves_16 rfl (lv_at hl 2 rfl) ?_
      refine aln_26 C h (Nat.lt_of_lt_of_le h2 ok.le) dX7_leaves_17 ?_
      refine lv_iconst (v := 2) C.x C.b dX7_leaves_18 (by decide) ?_
      refine lv_icmp_ne (tgt := 58) C.x C.b dX7_leaves_19 (by decide) (fun c2 => ?_) (fun c2 => ?_)
      · skip
        refine lv_iload_n C.x C.b dX7_leaves_58 rfl (lv_at hl 1 rfl) ?_
        refine lv_istore_n (lv' := [(1, .int v1), (0, .ref (ead E 15)), (2, .int (nI j2))]) C.x C.b dX7_leaves_59 rfl hl (by decide) rfl (fun ls hl => ?_)
        refine lv_iinc (v := nI (j2 + 1)) (lv' := [(2, .int (nI (j2 + 1))), (1, .int v1), (0, .ref (ead E 15))]) C.x C.b dX7_leaves_60 hl (k := 2) rfl (nI_1 _) (by decide) rfl (fun ls hl => ?_)
        refine lv_goto (tgt := 4) C.x C.b dX7_leaves_63 (by decide) ?_
        exact ih (v1 := v1) (j2 := j2 + 1) ok (by omega) (by have := ok.le; omega) (by first | exact Or.inl rfl | exact hv | exact Or.inr (vp_in_nI (Nat.lt_of_lt_of_le h2 ok.le) (by decide))) h (lv_sub hl [2, 1, 0] rfl) (Eq.mp (congrArg (fun z => post z) ((S_X7_leaves_4_s n σ v1 j2).trans ((if_neg c1).trans (if_neg c2)))) hp)
      · skip
        refine lv_aload_n C.x C.b dX7_leaves_22 rfl (lv_at hl 0 rfl) ?_
        refine g_X7_38 C h dX7_leaves_23 ?_
        refine lv_iload_n C.x C.b dX7_leaves_26 rfl (lv_at hl 2 rfl) ?_
        refine aln_24 C h (Nat.lt_of_lt_of_le h2 ok.le) dX7_leaves_27 ?_
        refine lv_aload_n C.x C.b dX7_leaves_28 rfl (lv_at hl 0 rfl) ?_
        refine g_X7_100 C h dX7_leaves_29 ?_
        refine lv_icmp_gt (tgt := 58) C.x C.b dX7_leaves_32 (by decide) (fun c3 => ?_) (fun c3 => ?_)
        · skip
          refine lv_iload_n C.x C.b dX7_leaves_58 rfl (lv_at hl 1 rfl) ?_
          refine lv_istore_n (lv' := [(1, .int v1), (0, .ref (ead E 15)), (2, .int (nI j2))]) C.x C.b dX7_leaves_59 rfl hl (by decide) rfl (fun ls hl => ?_)
          refine lv_iinc (v := nI (j2 + 1)) (lv' := [(2, .int (nI (j2 + 1))), (1, .int v1), (0, .ref (ead E 15))]) C.x C.b dX7_leaves_60 hl (k := 2) rfl (nI_1 _) (by decide) rfl (fun ls hl => ?_)
          refine lv_goto (tgt := 4) C.x C.b dX7_leaves_63 (by decide) ?_
          exact ih (v1 := v1) (j2 := j2 + 1) ok (by omega) (by have := ok.le; omega) (by first | exact Or.inl rfl | exact hv | exact Or.inr (vp_in_nI (Nat.lt_of_lt_of_le h2 ok.le) (by decide))) h (lv_sub hl [2, 1, 0] rfl) (Eq.mp (congrArg (fun z => post z) ((S_X7_leaves_4_s n σ v1 j2).trans ((if_neg c1).trans ((if_pos c2).trans (if_pos c3))))) hp)
        · skip
          refine lv_iload_n C.x C.b dX7_leaves_35 rfl (lv_at hl 1 rfl) ?_
          refine lv_iconst (v := (-1)) C.x C.b dX7_leaves_36 (by decide) ?_
          refine lv_icmp_eq (tgt := 54) C.x C.b dX7_leaves_37 (by decide) (fun c4 => ?_) (fun c4 => ?_)
          · skip
            refine lv_iload_n C.x C.b dX7_leaves_54 rfl (lv_at hl 2 rfl) ?_
            refine lv_goto (tgt := 59) C.x C.b dX7_leaves_55 (by decide) ?_
            refine lv_istore_n (lv' := [(1, .int (nI j2)), (0, .ref (ead E 15)), (2, .int (nI j2))]) C.x C.b dX7_leaves_59 rfl hl (by decide) rfl (fun ls hl => ?_)
            refine lv_iinc (v := nI (j2 + 1)) (lv' := [(2, .int (nI (j2 + 1))), (1, .int (nI j2)), (0, .ref (ead E 15))]) C.x C.b dX7_leaves_60 hl (k := 2) rfl (nI_1 _) (by decide) rfl (fun ls hl => ?_)
            refine lv_goto (tgt := 4) C.x C.b dX7_leaves_63 (by decide) ?_
            exact ih (v1 := nI j2) (j2 := j2 + 1) ok (by omega) (by have := ok.le; omega) (by first | exact Or.inl rfl | exact hv | exact Or.inr (vp_in_nI (Nat.lt_of_lt_of_le h2 ok.le) (by decide))) h (lv_sub hl [2, 1, 0] rfl) (Eq.mp (congrArg (fun z => post z) ((S_X7_leaves_4_s n σ v1 j2).trans ((if_neg c1).trans ((if_pos c2).trans ((if_neg c3).trans (if_pos c4)))))) hp)
          · skip
            refine lv_aload_n C.x C.b dX7_leaves_40 rfl (lv_at hl 0 rfl) ?_
            refine lv_iload_n C.x C.b dX7_leaves_41 rfl (lv_at hl 2 rfl) ?_
            refine caVd (As := [.int (nI j2)]) (rest := []) (q0 := 15) (ci := 7) C h (M_X7_clockOf l D E _ ok (nI j2) (vp_in_nI (Nat.lt_of_lt_of_le h2 ok.le) (by decide))) cw_X7_153 m_im_X7_clockOf m_se_X7_clockOf rfl rfl ⟨Nat.le_of_ble_eq_true rfl, Nat.le_of_ble_eq_true rfl⟩ rfl rfl hl rfl (Nat.le_of_ble_eq_true rfl) dX7_leaves_42 ⟨Nat.le_of_ble_eq_true rfl, Nat.le_of_ble_eq_true rfl⟩ (fun r u H locs w5 h => ?_)
            obtain ⟨rfl, rfl⟩ := w5
            refine lv_aload_n C.x C.b dX7_leaves_45 rfl (lv_at hl 0 rfl) ?_
            refine lv_iload_n C.x C.b dX7_leaves_46 rfl (lv_at hl 1 rfl) ?_
            refine caVd (As := [.int v1]) (rest := [.double (S_X7_clockOf σ (nI j2))]) (q0 := 15) (ci := 7) C h (M_X7_clockOf l D E _ ok v1 (hv.resolve_left c4)) cw_X7_153 m_im_X7_clockOf m_se_X7_clockOf rfl rfl ⟨Nat.le_of_ble_eq_true rfl, Nat.le_of_ble_eq_true rfl⟩ rfl rfl hl rfl (Nat.le_of_ble_eq_true rfl) dX7_leaves_47 ⟨Nat.le_of_ble_eq_true rfl, Nat.le_of_ble_eq_true rfl⟩ (fun r u H locs w6 h => ?_)
            obtain ⟨rfl, rfl⟩ := w6
            refine lv_dcmp C.x C.b dX7_leaves_50 ?_
            refine lv_if_ge (tgt := 58) C.x C.b dX7_leaves_51 (by decide) (fun c7 => ?_) (fun c7 => ?_)
            · skip
              refine lv_iload_n C.x C.b dX7_leaves_58 rfl (lv_at hl 1 rfl) ?_
              refine lv_istore_n (lv' := [(1, .int v1), (0, .ref (ead E 15)), (2, .int (nI j2))]) C.x C.b dX7_leaves_59 rfl hl (by decide) rfl (fun ls hl => ?_)
              refine lv_iinc (v := nI (j2 + 1)) (lv' := [(2, .int (nI (j2 + 1))), (1, .int v1), (0, .ref (ead E 15))]) C.x C.b dX7_leaves_60 hl (k := 2) rfl (nI_1 _) (by decide) rfl (fun ls hl => ?_)
              refine lv_goto (tgt := 4) C.x C.b dX7_leaves_63 (by decide) ?_
              exact ih (v1 := v1) (j2 := j2 + 1) ok (by omega) (by have := ok.le; omega) (by first | exact Or.inl rfl | exact hv | exact Or.inr (vp_in_nI (Nat.lt_of_lt_of_le h2 ok.le) (by decide))) h (lv_sub hl [2, 1, 0] rfl) (Eq.mp (congrArg (fun z => post z) ((S_X7_leaves_4_s n σ v1 j2).trans ((if_neg c1).trans ((if_pos c2).trans ((if_neg c3).trans ((if_neg c4).trans (if_pos c7))))))) hp)
            · skip
              refine lv_iload_n C.x C.b dX7_leaves_54 rfl (lv_at hl 2 rfl) ?_
              refine lv_goto (tgt := 59) C.x C.b dX7_leaves_55 (by decide) ?_
              refine lv_istore_n (lv' := [(1, .int (nI j2)), (0, .ref (ead E 15)), (2, .int (nI j2))]) C.x C.b dX7_leaves_59 rfl hl (by decide) rfl (fun ls hl => ?_)
              refine lv_iinc (v := nI (j2 + 1)) (lv' := [(2, .int (nI (j2 + 1))), (1, .int (nI j2)), (0, .ref (ead E 15))]) C.x C.b dX7_leaves_60 hl (k := 2) rfl (nI_1 _) (by decide) rfl (fun ls hl => ?_)
              refine lv_goto (tgt := 4) C.x C.b dX7_leaves_63 (by decide) ?_
              exact ih (v1 := nI j2) (j2 := j2 + 1) ok (by omega) (by have := ok.le; omega) (by first | exact Or.inl rfl | exact hv | exact Or.inr (vp_in_nI (Nat.lt_of_lt_of_le h2 ok.le) (by decide))) h (lv_sub hl [2, 1, 0] rfl) (Eq.mp (congrArg (fun z => post z) ((S_X7_leaves_4_s n σ v1 j2).trans ((if_neg c1).trans ((if_pos c2).trans ((if_neg c3).trans ((if_neg c4).trans (if_neg c7))))))) hp)
def S_X7_leaves (σ : St) : St := S_X7_leaves_4 21 σ (-1) 0
set_option maxRecDepth 100000 in
set_option maxHeartbeats 4000000 in
theorem K_X7_leaves_0 {p : Program} {l : Launch} {e : Env} {s : State} {m : MethodId} {args : Array Value} {below : List Frame} {meth : Method} {c : Code} {D : va_G} {E : En} {A : Nat → Prop} {post : St → Prop} (C : CX p s m meth c cX7_leaves RX7 3 D E A) {σ : St} (ok : OK E σ) {H : Heap} {locs : List Loc} (h : HW D E σ A s H locs) (hr : meth.sig.returnType = none) {ls : Array Slot} (hl : lv_has ls 3 [(0, .ref (ead E 15))]) (hp : post (S_X7_leaves σ)) : W p l e rm_X7_leaves s m args below meth c H locs 0 0 (MQ below (va_Qv post (POB D E A) A) args s 0 0 A) (F0 m 0 ls []) := by
  refine lv_iconst (v := (-1)) C.x C.b dX7_leaves_0 (by decide) ?_
  refine lv_istore_n (lv' := [(1, .int (-1)), (0, .ref (ead E 15))]) C.x C.b dX7_leaves_1 rfl hl (by decide) rfl (fun ls hl => ?_)
  refine lv_iconst (v := 0) C.x C.b dX7_leaves_2 (by decide) ?_
  refine lv_istore_n (lv' := [(2, .int 0), (1, .int (-1)), (0, .ref (ead E 15))]) C.x C.b dX7_leaves_3 rfl hl (by decide) rfl (fun ls hl => ?_)
  exact K_X7_leaves_4 C hr 21 (v1 := (-1)) (j2 := 0) ok (by omega) (by have := ok.le; omega) (by first | exact Or.inl rfl | exact hv | exact Or.inr (vp_in_nI (Nat.lt_of_lt_of_le h2 ok.le) (by decide))) h (lv_sub hl [2, 1, 0] rfl) hp
theorem M_X7_leaves (l : Launch) (D : va_G) (E : En) (σ : St) (ok : OK E σ) : CO l yX7_leaves cX7_leaves 3 none rm_X7_leaves [.ref (ead E 15)] D E σ (fun A => va_Qv (fun u => (S_X7_leaves σ) = u) (POB D E A) A) 0 0 :=
  CO.of RX7 (by decide +kernel) rfl (Nat.le_of_ble_eq_true rfl) (fun p e s m below meth c A ls C h hr hl => K_X7_leaves_0 C ok h hr hl rfl)
theorem S_X7_leaves_66_fr {f i : Nat} (σ : St) (v1 : Int32) (hf : ∀ w ∈ [59, 60], f ≠ w) : (S_X7_leaves_66 σ v1) f i = σ f i := by
  unfold S_X7_leaves_66
  (repeat' split) <;> first | with_reducible rfl | (simp only [up2_f (hf 59 (by decide)), up2_f (hf 60 (by decide))]; done)
theorem S_X7_leaves_4_fr {f i : Nat} : ∀ (n : Nat) (σ : St) (v1 : Int32) (j2 : Nat) (hf : ∀ w ∈ [59, 60], f ≠ w), (S_X7_leaves_4 n σ v1 j2) f i = σ f i
  | 0, σ, v1, j2, hf => rfl
  | n + 1, σ, v1, j2, hf => by
    rw [S_X7_leaves_4_s]
    (repeat' split) <;> first | with_reducible rfl | (simp only [S_X7_leaves_4_fr n _ _ _ hf, up2_f (hf 59 (by decide)), up2_f (hf 60 (by decide)), S_X7_leaves_66_fr _ _ hf]; done)
theorem S_X7_leaves_fr {f i : Nat} (σ : St) (hf : ∀ w ∈ [59, 60], f ≠ w) : (S_X7_leaves σ) f i = σ f i := by
  unfold S_X7_leaves
  (repeat' split) <;> first | with_reducible rfl | (simp only [up2_f (hf 59 (by decide)), up2_f (hf 60 (by decide)), S_X7_leaves_66_fr _ _ hf, S_X7_leaves_4_fr _ _ _ _ hf]; done)
theorem S_X7_leaves_ok {E : En} {σ : St} (ok : OK E σ) : OK E (S_X7_leaves σ) :=
  ok.of_fr (fun f i hf => S_X7_leaves_fr σ (fun w hw q => absurd (show w ∈ [1, 3, 33, 43, 55, 66] by rw [← q]; exact hf) ((by decide : ∀ w ∈ [59, 60], w ∉ [1, 3, 33, 43, 55, 66]) w hw)))
-- X7_minute minute()V
theorem cw_X7_157 : CWd RX7 157 yX7_falls cX7_falls 3 none 1 := ⟨m_ml_X7_157, m_co_X7_falls, m_ini_X7, by decide +kernel, by decide +kernel⟩
theorem cw_X7_160 : CWd RX7 160 yX7_isClosed cX7_isClosed 1 (some .boolean) 0 := ⟨m_ml_X7_160, m_co_X7_isClosed, m_ini_X7, by decide +kernel, by decide +kernel⟩
theorem cw_X7_164 : CWd RX7 164 yX7_ploughs cX7_ploughs 4 none 0 := ⟨m_ml_X7_164, m_co_X7_ploughs, m_ini_X7, by decide +kernel, by decide +kernel⟩
theorem cw_X7_166 : CWd RX7 166 yX7_goesOn cX7_goesOn 2 none 1 := ⟨m_ml_X7_166, m_co_X7_goesOn, m_ini_X7, by decide +kernel, by decide +kernel⟩
theorem cw_X7_129 : CWd RX7 129 yX7_cancels cX7_cancels 2 none 1 := ⟨m_ml_X7_129, m_co_X7_cancels, m_ini_X7, by decide +kernel, by decide +kernel⟩
theorem cw_X7_172 : CWd RX7 172 yX7_areEnough cX7_areEnough 2 (some .boolean) 0 := ⟨m_ml_X7_172, m_co_X7_areEnough, m_ini_X7, by decide +kernel, by decide +kernel⟩
theorem cw_X7_175 : CWd RX7 175 yX7_leaves cX7_leaves 3 none 0 := ⟨m_ml_X7_175, m_co_X7_leaves, m_ini_X7, by decide +kernel, by decide +kernel⟩
abbrev rm_X7_minute : Room := { frames := 3, cells := 0, slots := 0, locals := 64 }
def S_X7_minute_226 (σ : St) : St := if (S_X7_isClosed σ) = 0 then (if (S_X7_areEnough σ) = 0 then σ else (S_X7_leaves σ)) else σ
set_option maxRecDepth 100000 in
set_option maxHeartbeats 4000000 in
theorem K_X7_minute_226 {p : Program} {l : Launch} {e : Env} {s : State} {m : MethodId} {args : Array Value} {below : List Frame} {meth : Method} {c : Code} {D : va_G} {E : En} {A : Nat → Prop} {post : St → Prop} (C : CX p s m meth c cX7_minute RX7 3 D E A) {σ : St} (ok : OK E σ) {H : Heap} {locs : List Loc} (h : HW D E σ A s H locs) (hr : meth.sig.returnType = none) {ls : Array Slot} (hl : lv_has ls 3 [(0, .ref (ead E 15))]) (hp : post (S_X7_minute_226 σ)) : W p l e rm_X7_minute s m args below meth c H locs 0 0 (MQ below (va_Qv post (POB D E A) A) args s 0 0 A) (F0 m 226 ls []) := by
  refine lv_aload_n C.x C.b dX7_minute_226 rfl (lv_at hl 0 rfl) ?_
  refine caVi (As := []) (rest := []) (q0 := 15) (ci := 7) C h (M_X7_isClosed l D E _ ok) cw_X7_160 m_im_X7_isClosed m_se_X7_isClosed rfl rfl ⟨Nat.le_of_ble_eq_true rfl, Nat.le_of_ble_eq_true rfl⟩ rfl rfl hl rfl (Nat.le_of_ble_eq_true rfl) dX7_minute_227 ⟨Nat.le_of_ble_eq_true rfl, Nat.le_of_ble_eq_true rfl⟩ (fun r u H locs w1 h => ?_)
  obtain ⟨rfl, rfl⟩ := w1
  refine lv_if_ne (tgt := 244) C.x C.b dX7_minute_230 (by decide) (fun c2 => ?_) (fun c2 => ?_)
  · skip
    exact rtV C h hr dX7_minute_244 (Eq.mp (congrArg (fun z => post z) (if_neg c2)) hp)
  · skip
    refine lv_aload_n C.x C.b dX7_minute_233 rfl (lv_at hl 0 rfl) ?_
    refine caVi (As := []) (rest := []) (q0 := 15) (ci := 7) C h (M_X7_areEnough l D E _ ok) cw_X7_172 m_im_X7_areEnough m_se_X7_areEnough rfl rfl ⟨Nat.le_of_ble_eq_true rfl, Nat.le_of_ble_eq_true rfl⟩ rfl rfl hl rfl (Nat.le_of_ble_eq_true rfl) dX7_minute_234 ⟨Nat.le_of_ble_eq_true rfl, Nat.le_of_ble_eq_true rfl⟩ (fun r u H locs w3 h => ?_)
    obtain ⟨rfl, rfl⟩ := w3
    refine lv_if_eq (tgt := 244) C.x C.b dX7_minute_237 (by decide) (fun c4 => ?_) (fun c4 => ?_)
    · skip
      exact rtV C h hr dX7_minute_244 (Eq.mp (congrArg (fun z => post z) ((if_pos c2).trans (if_pos c4))) hp)
    · skip
      refine lv_aload_n C.x C.b dX7_minute_240 rfl (lv_at hl 0 rfl) ?_
      refine caVv (As := []) (rest := []) (q0 := 15) (ci := 7) C h (M_X7_leaves l D E _ ok) cw_X7_175 m_im_X7_leaves m_se_X7_leaves rfl rfl ⟨Nat.le_of_ble_eq_true rfl, Nat.le_of_ble_eq_true rfl⟩ rfl rfl hl rfl (Nat.le_of_ble_eq_true rfl) dX7_minute_241 ⟨Nat.le_of_ble_eq_true rfl, Nat.le_of_ble_eq_true rfl⟩ (fun u H locs w5 h => ?_)
      subst w5
      exact rtV C h hr dX7_minute_244 (Eq.mp (congrArg (fun z => post z) ((if_pos c2).trans (if_neg c4))) hp)
def S_X7_minute_176 : Nat → St → Nat → St
  | 0, σ, _ => σ
  | n + 1, σ, j2 => if (σ 55 0) ≤ (nI j2) then S_X7_minute_226 σ else if (σ 59 j2) = 2 then (if 0 ≤ (Op.cmpValue (FP.dcmp (S_X7_clockOf σ (nI j2)) FP.dconst0) CmpOp.g) then S_X7_minute_176 n (up2 σ 59 j2 (σ 59 j2)) (j2 + 1) else S_X7_minute_176 n (up2 σ 59 j2 0) (j2 + 1)) else S_X7_minute_176 n (up2 σ 59 j2 (σ 59 j2)) (j2 + 1)
theorem S_X7_minute_176_s (n : Nat) (σ : St) (j2 : Nat) : S_X7_minute_176 (n + 1) σ j2 = if (σ 55 0) ≤ (nI j2) then S_X7_minute_226 σ else if (σ 59 j2) = 2 then (if 0 ≤ (Op.cmpValue (FP.dcmp (S_X7_clockOf σ (nI j2)) FP.dconst0) CmpOp.g) then S_X7_minute_176 n (up2 σ 59 j2 (σ 59 j2)) (j2 + 1) else S_X7_minute_176 n (up2 σ 59 j2 0) (j2 + 1)) else S_X7_minute_176 n (up2 σ 59 j2 (σ 59 j2)) (j2 + 1) := rfl
set_option maxRecDepth 100000 in
set_option maxHeartbeats 4000000 in
theorem K_X7_minute_176 {p : Program} {l : Launch} {e : Env} {s : State} {m : MethodId} {args : Array Value} {below : List Frame} {meth : Method} {c : Code} {D : va_G} {E : En} {A : Nat → Prop} {post : St → Prop} (C : CX p s m meth c cX7_minute RX7 3 D E A) (hr : meth.sig.returnType = none) : ∀ (n : Nat) {σ : St} (ok : OK E σ) {j2 : Nat} (hj : j2 + n = 21) (hb : j2 ≤ 20) {H : Heap} {locs : List Loc} (h : HW D E σ A s H locs) {ls : Array Slot} (hl : lv_has ls 3 [(0, .ref (ead E 15)), (2, .int (nI j2))]) (hp : post (S_X7_minute_176 n σ j2)), W p l e rm_X7_minute s m args below meth c H locs 0 0 (MQ below (va_Qv post (POB D E A) A) args s 0 0 A) (F0 m 176 ls []) := by
  intro n
  induction n with
  | zero =>
    intro σ ok j2 hj hb H locs h ls hl hp
    exfalso
    omega
  | succ n ih =>
    intro σ ok j2 hj hb H locs h ls hl hp
    refine lv_iload_n C.x C.b dX7_minute_176 rfl (lv_at hl 1 rfl) ?_
    refine lv_aload_n C.x C.b dX7_minute_177 rfl (lv_at hl 0 rfl) ?_
    refine g_X7_81 C h dX7_minute_178 ?_
    refine lv_icmp_ge (tgt := 226) C.x C.b dX7_minute_181 (by decide) (fun c1 => ?_) (fun c1 => ?_)
    · skip
      exact K_X7_minute_226 C ok h hr (lv_sub hl [0] rfl) (Eq.mp (congrArg (fun z => post z) ((S_X7_minute_176_s n σ j2).trans (if_pos c1))) hp)
    · skip
      have h2 : j2 < en E := ok.lt' (by omega) c1
      refine lv_aload_n C.x C.b dX7_minute_184 rfl (lv_at hl 0 rfl) ?_
      refine g_X7_44 C h dX7_minute_185 ?_
      refine lv_iload_n C.x C.b dX7_minute_188 rfl (lv_at hl 1 rfl) ?_
      refine lv_aload_n C.x C.b dX7_minute_189 rfl (lv_at hl 0 rfl) ?_
      refine g_X7_44 C h dX7_minute_190 ?_
      refine lv_iload_n C.x C.b dX7_minute_193 rfl (lv_at hl 1 rfl) ?_
      refine aln_26 C h (Nat.lt_of_lt_of_le h2 ok.le) dX7_minute_194 ?_
      refine lv_iconst (v := 2) C.x C.b dX7_minute_195 (by decide) ?_
      refine lv_icmp_ne (tgt := 213) C.x C.b dX7_minute_196 (by decide) (fun c2 => ?_) (fun c2 => ?_)
      · skip
        refine lv_aload_n C.x C.b dX7_minute_213 rfl (lv_at hl 0 rfl) ?_
        refine g_X7_44 C h dX7_minute_214 ?_
        refine lv_iload_n C.x C.b dX7_minute_217 rfl (lv_at hl 1 rfl) ?_
        refine aln_26 C h (Nat.lt_of_lt_of_le h2 ok.le) dX7_minute_218 ?_
        refine asn_26 C h (Nat.lt_of_lt_of_le h2 ok.le) dX7_minute_219 (fun H locs h => ?_)
        refine lv_iinc (v := nI (j2 + 1)) (lv' := [(2, .int (nI (j2 + 1))), (0, .ref (ead E 15))]) C.x C.b dX7_minute_220 hl (k := 1) rfl (nI_1 _) (by decide) rfl (fun ls hl => ?_)
        refine lv_goto (tgt := 176) C.x C.b dX7_minute_223 (by decide) ?_
        exact ih (j2 := j2 + 1) (ok.up (by decide) _ _) (by omega) (by have := ok.le; omega) h (lv_sub hl [1, 0] rfl) (Eq.mp (congrArg (fun z => post z) ((S_X7_minute_176_s n σ j2).trans ((if_neg c1).trans (if_neg c2)))) hp)
      · skip
        refine lv_aload_n C.x C.b dX7_minute_199 rfl (lv_at hl 0 rfl) ?_
        refine lv_iload_n C.x C.b dX7_minute_200 rfl (lv_at hl 1 rfl) ?_
        refine caVd (As := [.int (nI j2)]) (rest := [.int (nI j2), .ref (ead E 26)]) (q0 := 15) (ci := 7) C h (M_X7_clockOf l D E _ ok (nI j2) (vp_in_nI (Nat.lt_of_lt_of_le h2 ok.le) (by decide))) cw_X7_153 m_im_X7_clockOf m_se_X7_clockOf rfl rfl ⟨Nat.le_of_ble_eq_true rfl, Nat.le_of_ble_eq_true rfl⟩ rfl rfl hl rfl (Nat.le_of_ble_eq_true rfl) dX7_minute_201 ⟨Nat.le_of_ble_eq_true rfl, Nat.le_of_ble_eq_true rfl⟩ (fun r u H locs w3 h => ?_)
        obtain ⟨rfl, rfl⟩ := w3
        refine lv_dconst0 C.x C.b dX7_minute_204 ?_
        refine lv_dcmp C.x C.b dX7_minute_205 ?_
        refine lv_if_ge (tgt := 213) C.x C.b dX7_minute_206 (by decide) (fun c4 => ?_) (fun c4 => ?_)
        · skip
          refine lv_aload_n C.x C.b dX7_minute_213 rfl (lv_at hl 0 rfl) ?_
          refine g_X7_44 C h dX7_minute_214 ?_
          refine lv_iload_n C.x C.b dX7_minute_217 rfl (lv_at hl 1 rfl) ?_
          refine aln_26 C h (Nat.lt_of_lt_of_le h2 ok.le) dX7_minute_218 ?_
          refine asn_26 C h (Nat.lt_of_lt_of_le h2 ok.le) dX7_minute_219 (fun H locs h => ?_)
          refine lv_iinc (v := nI (j2 + 1)) (lv' := [(2, .int (nI (j2 + 1))), (0, .ref (ead E 15))]) C.x C.b dX7_minute_220 hl (k := 1) rfl (nI_1 _) (by decide) rfl (fun ls hl => ?_)
          refine lv_goto (tgt := 176) C.x C.b dX7_minute_223 (by decide) ?_
          exact ih (j2 := j2 + 1) (ok.up (by decide) _ _) (by omega) (by have := ok.le; omega) h (lv_sub hl [1, 0] rfl) (Eq.mp (congrArg (fun z => post z) ((S_X7_minute_176_s n σ j2).trans ((if_neg c1).trans ((if_pos c2).trans (if_pos c4))))) hp)
        · skip
          refine lv_iconst (v := 0) C.x C.b dX7_minute_209 (by decide) ?_
          refine lv_goto (tgt := 219) C.x C.b dX7_minute_210 (by decide) ?_
          refine asn_26 C h (Nat.lt_of_lt_of_le h2 ok.le) dX7_minute_219 (fun H locs h => ?_)
          refine lv_iinc (v := nI (j2 + 1)) (lv' := [(2, .int (nI (j2 + 1))), (0, .ref (ead E 15))]) C.x C.b dX7_minute_220 hl (k := 1) rfl (nI_1 _) (by decide) rfl (fun ls hl => ?_)
          refine lv_goto (tgt := 176) C.x C.b dX7_minute_223 (by decide) ?_
          exact ih (j2 := j2 + 1) (ok.up (by decide) _ _) (by omega) (by have := ok.le; omega) h (lv_sub hl [1, 0] rfl) (Eq.mp (congrArg (fun z => post z) ((S_X7_minute_176_s n σ j2).trans ((if_neg c1).trans ((if_pos c2).trans (if_neg c4))))) hp)
def S_X7_minute_174 (σ : St) : St := S_X7_minute_176 21 σ 0
set_option maxRecDepth 100000 in
set_option maxHeartbeats 4000000 in
theorem K_X7_minute_174 {p : Program} {l : Launch} {e : Env} {s : State} {m : MethodId} {args : Array Value} {below : List Frame} {meth : Method} {c : Code} {D : va_G} {E : En} {A : Nat → Prop} {post : St → Prop} (C : CX p s m meth c cX7_minute RX7 3 D E A) {σ : St} (ok : OK E σ) {H : Heap} {locs : List Loc} (h : HW D E σ A s H locs) (hr : meth.sig.returnType = none) {ls : Array Slot} (hl : lv_has ls 3 [(0, .ref (ead E 15))]) (hp : post (S_X7_minute_174 σ)) : W p l e rm_X7_minute s m args below meth c H locs 0 0 (MQ below (va_Qv post (POB D E A) A) args s 0 0 A) (F0 m 174 ls []) := by
  refine lv_iconst (v := 0) C.x C.b dX7_minute_174 (by decide) ?_
  refine lv_istore_n (lv' := [(2, .int 0), (0, .ref (ead E 15))]) C.x C.b dX7_minute_175 rfl hl (by decide) rfl (fun ls hl => ?_)
  exact K_X7_minute_176 C hr 21 (j2 := 0) ok (by omega) (by have := ok.le; omega) h (lv_sub hl [1, 0] rfl) hp
def S_X7_minute_122 : Nat → St → Nat → St
  | 0, σ, _ => σ
  | n + 1, σ, j2 => if (σ 55 0) ≤ (nI j2) then S_X7_minute_174 σ else if (σ 59 j2) = 3 then S_X7_minute_122 n σ (j2 + 1) else if (σ 59 j2) = 4 then S_X7_minute_122 n σ (j2 + 1) else if (σ 41 0) ≤ (σ 58 j2) then S_X7_minute_122 n σ (j2 + 1) else S_X7_minute_122 n (S_X7_cancels σ (nI j2)) (j2 + 1)
theorem S_X7_minute_122_s (n : Nat) (σ : St) (j2 : Nat) : S_X7_minute_122 (n + 1) σ j2 = if (σ 55 0) ≤ (nI j2) then S_X7_minute_174 σ else if (σ 59 j2) = 3 then S_X7_minute_122 n σ (j2 + 1) else if (σ 59 j2) = 4 then S_X7_minute_122 n σ (j2 + 1) else if (σ 41 0) ≤ (σ 58 j2) then S_X7_minute_122 n σ (j2 + 1) else S_X7_minute_122 n (S_X7_cancels σ (nI j2)) (j2 + 1) := rfl
set_option maxRecDepth 100000 in
set_option maxHeartbeats 4000000 in
theorem K_X7_minute_122 {p : Program} {l : Launch} {e : Env} {s : State} {m : MethodId} {args : Array Value} {below : List Frame} {meth : Method} {c : Code} {D : va_G} {E : En} {A : Nat → Prop} {post : St → Prop} (C : CX p s m meth c cX7_minute RX7 3 D E A) (hr : meth.sig.returnType = none) : ∀ (n : Nat) {σ : St} (ok : OK E σ) {j2 : Nat} (hj : j2 + n = 21) (hb : j2 ≤ 20) {H : Heap} {locs : List Loc} (h : HW D E σ A s H locs) {ls : Array Slot} (hl : lv_has ls 3 [(0, .ref (ead E 15)), (2, .int (nI j2))]) (hp : post (S_X7_minute_122 n σ j2)), W p l e rm_X7_minute s m args below meth c H locs 0 0 (MQ below (va_Qv post (POB D E A) A) args s 0 0 A) (F0 m 122 ls []) := by
  intro n
  induction n with
  | zero =>
    intro σ ok j2 hj hb H locs h ls hl hp
    exfalso
    omega
  | succ n ih =>
    intro σ ok j2 hj hb H locs h ls hl hp
    refine lv_iload_n C.x C.b dX7_minute_122 rfl (lv_at hl 1 rfl) ?_
    refine lv_aload_n C.x C.b dX7_minute_123 rfl (lv_at hl 0 rfl) ?_
    refine g_X7_81 C h dX7_minute_124 ?_
    refine lv_icmp_ge (tgt := 174) C.x C.b dX7_minute_127 (by decide) (fun c1 => ?_) (fun c1 => ?_)
    · skip
      exact K_X7_minute_174 C ok h hr (lv_sub hl [0] rfl) (Eq.mp (congrArg (fun z => post z) ((S_X7_minute_122_s n σ j2).trans (if_pos c1))) hp)
    · skip
      have h2 : j2 < en E := ok.lt' (by omega) c1
      refine lv_aload_n C.x C.b dX7_minute_130 rfl (lv_at hl 0 rfl) ?_
      refine g_X7_44 C h dX7_minute_131 ?_
      refine lv_iload_n C.x C.b dX7_minute_134 rfl (lv_at hl 1 rfl) ?_
      refine aln_26 C h (Nat.lt_of_lt_of_le h2 ok.le) dX7_minute_135 ?_
      refine lv_iconst (v := 3) C.x C.b dX7_minute_136 (by decide) ?_
      refine lv_icmp_eq (tgt := 168) C.x C.b dX7_minute_137 (by decide) (fun c2 => ?_) (fun c2 => ?_)
      · skip
        refine lv_iinc (v := nI (j2 + 1)) (lv' := [(2, .int (nI (j2 + 1))), (0, .ref (ead E 15))]) C.x C.b dX7_minute_168 hl (k := 1) rfl (nI_1 _) (by decide) rfl (fun ls hl => ?_)
        refine lv_goto (tgt := 122) C.x C.b dX7_minute_171 (by decide) ?_
        exact ih (j2 := j2 + 1) ok (by omega) (by have := ok.le; omega) h (lv_sub hl [1, 0] rfl) (Eq.mp (congrArg (fun z => post z) ((S_X7_minute_122_s n σ j2).trans ((if_neg c1).trans (if_pos c2)))) hp)
      · skip
        refine lv_aload_n C.x C.b dX7_minute_140 rfl (lv_at hl 0 rfl) ?_
        refine g_X7_44 C h dX7_minute_141 ?_
        refine lv_iload_n C.x C.b dX7_minute_144 rfl (lv_at hl 1 rfl) ?_
        refine aln_26 C h (Nat.lt_of_lt_of_le h2 ok.le) dX7_minute_145 ?_
        refine lv_iconst (v := 4) C.x C.b dX7_minute_146 (by decide) ?_
        refine lv_icmp_eq (tgt := 168) C.x C.b dX7_minute_147 (by decide) (fun c3 => ?_) (fun c3 => ?_)
        · skip
          refine lv_iinc (v := nI (j2 + 1)) (lv' := [(2, .int (nI (j2 + 1))), (0, .ref (ead E 15))]) C.x C.b dX7_minute_168 hl (k := 1) rfl (nI_1 _) (by decide) rfl (fun ls hl => ?_)
          refine lv_goto (tgt := 122) C.x C.b dX7_minute_171 (by decide) ?_
          exact ih (j2 := j2 + 1) ok (by omega) (by have := ok.le; omega) h (lv_sub hl [1, 0] rfl) (Eq.mp (congrArg (fun z => post z) ((S_X7_minute_122_s n σ j2).trans ((if_neg c1).trans ((if_neg c2).trans (if_pos c3))))) hp)
        · skip
          refine lv_aload_n C.x C.b dX7_minute_150 rfl (lv_at hl 0 rfl) ?_
          refine g_X7_41 C h dX7_minute_151 ?_
          refine lv_iload_n C.x C.b dX7_minute_154 rfl (lv_at hl 1 rfl) ?_
          refine aln_25 C h (Nat.lt_of_lt_of_le h2 ok.le) dX7_minute_155 ?_
          refine lv_aload_n C.x C.b dX7_minute_156 rfl (lv_at hl 0 rfl) ?_
          refine g_X7_100 C h dX7_minute_157 ?_
          refine lv_icmp_ge (tgt := 168) C.x C.b dX7_minute_160 (by decide) (fun c4 => ?_) (fun c4 => ?_)
          · skip
            refine lv_iinc (v := nI (j2 + 1)) (lv' := [(2, .int (nI (j2 + 1))), (0, .ref (ead E 15))]) C.x C.b dX7_minute_168 hl (k := 1) rfl (nI_1 _) (by decide) rfl (fun ls hl => ?_)
            refine lv_goto (tgt := 122) C.x C.b dX7_minute_171 (by decide) ?_
            exact ih (j2 := j2 + 1) ok (by omega) (by have := ok.le; omega) h (lv_sub hl [1, 0] rfl) (Eq.mp (congrArg (fun z => post z) ((S_X7_minute_122_s n σ j2).trans ((if_neg c1).trans ((if_neg c2).trans ((if_neg c3).trans (if_pos c4)))))) hp)
          · skip
            refine lv_aload_n C.x C.b dX7_minute_163 rfl (lv_at hl 0 rfl) ?_
            refine lv_iload_n C.x C.b dX7_minute_164 rfl (lv_at hl 1 rfl) ?_
            refine caVv (As := [.int (nI j2)]) (rest := []) (q0 := 15) (ci := 7) C h (M_X7_cancels l D E _ ok (nI j2) (vp_in_nI (Nat.lt_of_lt_of_le h2 ok.le) (by decide))) cw_X7_129 m_im_X7_cancels m_se_X7_cancels rfl rfl ⟨Nat.le_of_ble_eq_true rfl, Nat.le_of_ble_eq_true rfl⟩ rfl rfl hl rfl (Nat.le_of_ble_eq_true rfl) dX7_minute_165 ⟨Nat.le_of_ble_eq_true rfl, Nat.le_of_ble_eq_true rfl⟩ (fun u H locs w5 h => ?_)
            subst w5
            refine lv_iinc (v := nI (j2 + 1)) (lv' := [(2, .int (nI (j2 + 1))), (0, .ref (ead E 15))]) C.x C.b dX7_minute_168 hl (k := 1) rfl (nI_1 _) (by decide) rfl (fun ls hl => ?_)
            refine lv_goto (tgt := 122) C.x C.b dX7_minute_171 (by decide) ?_
            exact ih (j2 := j2 + 1) (S_X7_cancels_ok ok (nI j2)) (by omega) (by have := ok.le; omega) h (lv_sub hl [1, 0] rfl) (Eq.mp (congrArg (fun z => post z) ((S_X7_minute_122_s n σ j2).trans ((if_neg c1).trans ((if_neg c2).trans ((if_neg c3).trans (if_neg c4)))))) hp)
def S_X7_minute_99 (σ : St) (y0 : Int32) : St := S_X7_minute_122 21 (up2 (up2 σ 69 0 ((σ 69 0) - y0)) 70 0 ((σ 70 0) + y0)) 0
set_option maxRecDepth 100000 in
set_option maxHeartbeats 4000000 in
theorem K_X7_minute_99 {p : Program} {l : Launch} {e : Env} {s : State} {m : MethodId} {args : Array Value} {below : List Frame} {meth : Method} {c : Code} {D : va_G} {E : En} {A : Nat → Prop} {post : St → Prop} (C : CX p s m meth c cX7_minute RX7 3 D E A) {σ : St} (ok : OK E σ) {y0 : Int32} {H : Heap} {locs : List Loc} (h : HW D E σ A s H locs) (hr : meth.sig.returnType = none) {ls : Array Slot} (hl : lv_has ls 3 [(0, .ref (ead E 15))]) (hp : post (S_X7_minute_99 σ y0)) : W p l e rm_X7_minute s m args below meth c H locs 0 0 (MQ below (va_Qv post (POB D E A) A) args s 0 0 A) (F0 m 99 ls [.int y0]) := by
  refine lv_istore_n (lv' := [(1, .int y0), (0, .ref (ead E 15))]) C.x C.b dX7_minute_99 rfl hl (by decide) rfl (fun ls hl => ?_)
  refine lv_aload_n C.x C.b dX7_minute_100 rfl (lv_at hl 1 rfl) ?_
  refine lv_dup C.x C.b dX7_minute_101 rfl ?_
  refine g_X7_126 C h dX7_minute_102 ?_
  refine lv_iload_n C.x C.b dX7_minute_105 rfl (lv_at hl 0 rfl) ?_
  refine lv_isub C.x C.b dX7_minute_106 ?_
  refine p_X7_126 C h dX7_minute_107 (fun H locs h => ?_)
  refine lv_aload_n C.x C.b dX7_minute_110 rfl (lv_at hl 1 rfl) ?_
  refine lv_dup C.x C.b dX7_minute_111 rfl ?_
  refine g_X7_169 C h dX7_minute_112 ?_
  refine lv_iload_n C.x C.b dX7_minute_115 rfl (lv_at hl 0 rfl) ?_
  refine lv_iadd C.x C.b dX7_minute_116 ?_
  refine p_X7_169 C h dX7_minute_117 (fun H locs h => ?_)
  refine lv_iconst (v := 0) C.x C.b dX7_minute_120 (by decide) ?_
  refine lv_istore_n (lv' := [(2, .int 0), (1, .int y0), (0, .ref (ead E 15))]) C.x C.b dX7_minute_121 rfl hl (by decide) rfl (fun ls hl => ?_)
  exact K_X7_minute_122 C hr 21 (j2 := 0) ((ok.up (by decide) _ _).up (by decide) _ _) (by omega) (by have := ok.le; omega) h (lv_sub hl [2, 0] rfl) hp
def S_X7_minute_83 (σ : St) : St := if 3 ≤ (σ 69 0) then S_X7_minute_99 σ 3 else S_X7_minute_99 σ (σ 69 0)
set_option maxRecDepth 100000 in
set_option maxHeartbeats 4000000 in
theorem K_X7_minute_83 {p : Program} {l : Launch} {e : Env} {s : State} {m : MethodId} {args : Array Value} {below : List Frame} {meth : Method} {c : Code} {D : va_G} {E : En} {A : Nat → Prop} {post : St → Prop} (C : CX p s m meth c cX7_minute RX7 3 D E A) {σ : St} (ok : OK E σ) {H : Heap} {locs : List Loc} (h : HW D E σ A s H locs) (hr : meth.sig.returnType = none) {ls : Array Slot} (hl : lv_has ls 3 [(0, .ref (ead E 15))]) (hp : post (S_X7_minute_83 σ)) : W p l e rm_X7_minute s m args below meth c H locs 0 0 (MQ below (va_Qv post (POB D E A) A) args s 0 0 A) (F0 m 83 ls []) := by
  refine lv_aload_n C.x C.b dX7_minute_83 rfl (lv_at hl 0 rfl) ?_
  refine g_X7_126 C h dX7_minute_84 ?_
  refine lv_iconst (v := 3) C.x C.b dX7_minute_87 (by decide) ?_
  refine lv_icmp_ge (tgt := 98) C.x C.b dX7_minute_88 (by decide) (fun c1 => ?_) (fun c1 => ?_)
  · skip
    refine lv_iconst (v := 3) C.x C.b dX7_minute_98 (by decide) ?_
    exact K_X7_minute_99 (y0 := 3) C ok h hr (lv_sub hl [0] rfl) (Eq.mp (congrArg (fun z => post z) (if_pos c1)) hp)
  · skip
    refine lv_aload_n C.x C.b dX7_minute_91 rfl (lv_at hl 0 rfl) ?_
    refine g_X7_126 C h dX7_minute_92 ?_
    refine lv_goto (tgt := 99) C.x C.b dX7_minute_95 (by decide) ?_
    exact K_X7_minute_99 (y0 := (σ 69 0)) C ok h hr (lv_sub hl [0] rfl) (Eq.mp (congrArg (fun z => post z) (if_neg c1)) hp)
def S_X7_minute_64 : Nat → St → Nat → St
  | 0, σ, _ => σ
  | n + 1, σ, j1 => if (σ 55 0) ≤ (nI j1) then S_X7_minute_83 σ else S_X7_minute_64 n (S_X7_goesOn σ (nI j1)) (j1 + 1)
theorem S_X7_minute_64_s (n : Nat) (σ : St) (j1 : Nat) : S_X7_minute_64 (n + 1) σ j1 = if (σ 55 0) ≤ (nI j1) then S_X7_minute_83 σ else S_X7_minute_64 n (S_X7_goesOn σ (nI j1)) (j1 + 1) := rfl
set_option maxRecDepth 100000 in
set_option maxHeartbeats 4000000 in
theorem K_X7_minute_64 {p : Program} {l : Launch} {e : Env} {s : State} {m : MethodId} {args : Array Value} {below : List Frame} {meth : Method} {c : Code} {D : va_G} {E : En} {A : Nat → Prop} {post : St → Prop} (C : CX p s m meth c cX7_minute RX7 3 D E A) (hr : meth.sig.returnType = none) : ∀ (n : Nat) {σ : St} (ok : OK E σ) {j1 : Nat} (hj : j1 + n = 21) (hb : j1 ≤ 20) {H : Heap} {locs : List Loc} (h : HW D E σ A s H locs) {ls : Array Slot} (hl : lv_has ls 3 [(0, .ref (ead E 15)), (1, .int (nI j1))]) (hp : post (S_X7_minute_64 n σ j1)), W p l e rm_X7_minute s m args below meth c H locs 0 0 (MQ below (va_Qv post (POB D E A) A) args s 0 0 A) (F0 m 64 ls []) := by
  intro n
  induction n with
  | zero =>
    intro σ ok j1 hj hb H locs h ls hl hp
    exfalso
    omega
  | succ n ih =>
    intro σ ok j1 hj hb H locs h ls hl hp
    refine lv_iload_n C.x C.b dX7_minute_64 rfl (lv_at hl 1 rfl) ?_
    refine lv_aload_n C.x C.b dX7_minute_65 rfl (lv_at hl 0 rfl) ?_
    refine g_X7_81 C h dX7_minute_66 ?_
    refine lv_icmp_ge (tgt := 83) C.x C.b dX7_minute_69 (by decide) (fun c1 => ?_) (fun c1 => ?_)
    · skip
      exact K_X7_minute_83 C ok h hr (lv_sub hl [0] rfl) (Eq.mp (congrArg (fun z => post z) ((S_X7_minute_64_s n σ j1).trans (if_pos c1))) hp)
    · skip
      have h1 : j1 < en E := ok.lt' (by omega) c1
      refine lv_aload_n C.x C.b dX7_minute_72 rfl (lv_at hl 0 rfl) ?_
      refine lv_iload_n C.x C.b dX7_minute_73 rfl (lv_at hl 1 rfl) ?_
      refine caVv (As := [.int (nI j1)]) (rest := []) (q0 := 15) (ci := 7) C h (M_X7_goesOn l D E _ ok (nI j1) (vp_in_nI (Nat.lt_of_lt_of_le h1 ok.le) (by decide))) cw_X7_166 m_im_X7_goesOn m_se_X7_goesOn rfl rfl ⟨Nat.le_of_ble_eq_true rfl, Nat.le_of_ble_eq_true rfl⟩ rfl rfl hl rfl (Nat.le_of_ble_eq_true rfl) dX7_minute_74 ⟨Nat.le_of_ble_eq_true rfl, Nat.le_of_ble_eq_true rfl⟩ (fun u H locs w2 h => ?_)
      subst w2
      refine lv_iinc (v := nI (j1 + 1)) (lv' := [(1, .int (nI (j1 + 1))), (0, .ref (ead E 15))]) C.x C.b dX7_minute_77 hl (k := 1) rfl (nI_1 _) (by decide) rfl (fun ls hl => ?_)
      refine lv_goto (tgt := 64) C.x C.b dX7_minute_80 (by decide) ?_
      exact ih (j1 := j1 + 1) (S_X7_goesOn_ok ok (nI j1)) (by omega) (by have := ok.le; omega) h (lv_sub hl [1, 0] rfl) (Eq.mp (congrArg (fun z => post z) ((S_X7_minute_64_s n σ j1).trans (if_neg c1))) hp)
def S_X7_minute_62 (σ : St) : St := S_X7_minute_64 21 σ 0
set_option maxRecDepth 100000 in
set_option maxHeartbeats 4000000 in
theorem K_X7_minute_62 {p : Program} {l : Launch} {e : Env} {s : State} {m : MethodId} {args : Array Value} {below : List Frame} {meth : Method} {c : Code} {D : va_G} {E : En} {A : Nat → Prop} {post : St → Prop} (C : CX p s m meth c cX7_minute RX7 3 D E A) {σ : St} (ok : OK E σ) {H : Heap} {locs : List Loc} (h : HW D E σ A s H locs) (hr : meth.sig.returnType = none) {ls : Array Slot} (hl : lv_has ls 3 [(0, .ref (ead E 15))]) (hp : post (S_X7_minute_62 σ)) : W p l e rm_X7_minute s m args below meth c H locs 0 0 (MQ below (va_Qv post (POB D E A) A) args s 0 0 A) (F0 m 62 ls []) := by
  refine lv_iconst (v := 0) C.x C.b dX7_minute_62 (by decide) ?_
  refine lv_istore_n (lv' := [(1, .int 0), (0, .ref (ead E 15))]) C.x C.b dX7_minute_63 rfl hl (by decide) rfl (fun ls hl => ?_)
  exact K_X7_minute_64 C hr 21 (j1 := 0) ok (by omega) (by have := ok.le; omega) h (lv_sub hl [1, 0] rfl) hp
def S_X7_minute_51 (σ : St) : St := if (S_X7_isClosed σ) = 0 then S_X7_minute_62 σ else S_X7_minute_62 (S_X7_ploughs σ)
set_option maxRecDepth 100000 in
set_option maxHeartbeats 4000000 in
theorem K_X7_minute_51 {p : Program} {l : Launch} {e : Env} {s : State} {m : MethodId} {args : Array Value} {below : List Frame} {meth : Method} {c : Code} {D : va_G} {E : En} {A : Nat → Prop} {post : St → Prop} (C : CX p s m meth c cX7_minute RX7 3 D E A) {σ : St} (ok : OK E σ) {H : Heap} {locs : List Loc} (h : HW D E σ A s H locs) (hr : meth.sig.returnType = none) {ls : Array Slot} (hl : lv_has ls 3 [(0, .ref (ead E 15))]) (hp : post (S_X7_minute_51 σ)) : W p l e rm_X7_minute s m args below meth c H locs 0 0 (MQ below (va_Qv post (POB D E A) A) args s 0 0 A) (F0 m 51 ls []) := by
  refine lv_aload_n C.x C.b dX7_minute_51 rfl (lv_at hl 0 rfl) ?_
  refine caVi (As := []) (rest := []) (q0 := 15) (ci := 7) C h (M_X7_isClosed l D E _ ok) cw_X7_160 m_im_X7_isClosed m_se_X7_isClosed rfl rfl ⟨Nat.le_of_ble_eq_true rfl, Nat.le_of_ble_eq_true rfl⟩ rfl rfl hl rfl (Nat.le_of_ble_eq_true rfl) dX7_minute_52 ⟨Nat.le_of_ble_eq_true rfl, Nat.le_of_ble_eq_true rfl⟩ (fun r u H locs w1 h => ?_)
  obtain ⟨rfl, rfl⟩ := w1
  refine lv_if_eq (tgt := 62) C.x C.b dX7_minute_55 (by decide) (fun c2 => ?_) (fun c2 => ?_)
  · skip
    exact K_X7_minute_62 C ok h hr (lv_sub hl [0] rfl) (Eq.mp (congrArg (fun z => post z) (if_pos c2)) hp)
  · skip
    refine lv_aload_n C.x C.b dX7_minute_58 rfl (lv_at hl 0 rfl) ?_
    refine caVv (As := []) (rest := []) (q0 := 15) (ci := 7) C h (M_X7_ploughs l D E _ ok) cw_X7_164 m_im_X7_ploughs m_se_X7_ploughs rfl rfl ⟨Nat.le_of_ble_eq_true rfl, Nat.le_of_ble_eq_true rfl⟩ rfl rfl hl rfl (Nat.le_of_ble_eq_true rfl) dX7_minute_59 ⟨Nat.le_of_ble_eq_true rfl, Nat.le_of_ble_eq_true rfl⟩ (fun u H locs w3 h => ?_)
    subst w3
    exact K_X7_minute_62 C (S_X7_ploughs_ok ok) h hr (lv_sub hl [0] rfl) (Eq.mp (congrArg (fun z => post z) (if_neg c2)) hp)
def S_X7_minute_35 : Nat → St → Nat → St
  | 0, σ, _ => σ
  | n + 1, σ, j1 => if 3 ≤ (nI j1) then S_X7_minute_51 σ else S_X7_minute_35 n (S_X7_falls σ (nI j1)) (j1 + 1)
theorem S_X7_minute_35_s (n : Nat) (σ : St) (j1 : Nat) : S_X7_minute_35 (n + 1) σ j1 = if 3 ≤ (nI j1) then S_X7_minute_51 σ else S_X7_minute_35 n (S_X7_falls σ (nI j1)) (j1 + 1) := rfl
set_option maxRecDepth 100000 in
set_option maxHeartbeats 4000000 in
theorem K_X7_minute_35 {p : Program} {l : Launch} {e : Env} {s : State} {m : MethodId} {args : Array Value} {below : List Frame} {meth : Method} {c : Code} {D : va_G} {E : En} {A : Nat → Prop} {post : St → Prop} (C : CX p s m meth c cX7_minute RX7 3 D E A) (hr : meth.sig.returnType = none) : ∀ (n : Nat) {σ : St} (ok : OK E σ) {j1 : Nat} (hj : j1 + n = 4) (hb : j1 ≤ 3) {H : Heap} {locs : List Loc} (h : HW D E σ A s H locs) {ls : Array Slot} (hl : lv_has ls 3 [(0, .ref (ead E 15)), (1, .int (nI j1))]) (hp : post (S_X7_minute_35 n σ j1)), W p l e rm_X7_minute s m args below meth c H locs 0 0 (MQ below (va_Qv post (POB D E A) A) args s 0 0 A) (F0 m 35 ls []) := by
  intro n
  induction n with
  | zero =>
    intro σ ok j1 hj hb H locs h ls hl hp
    exfalso
    omega
  | succ n ih =>
    intro σ ok j1 hj hb H locs h ls hl hp
    refine lv_iload_n C.x C.b dX7_minute_35 rfl (lv_at hl 1 rfl) ?_
    refine lv_iconst (v := 3) C.x C.b dX7_minute_36 (by decide) ?_
    refine lv_icmp_ge (tgt := 51) C.x C.b dX7_minute_37 (by decide) (fun c1 => ?_) (fun c1 => ?_)
    · skip
      exact K_X7_minute_51 C ok h hr (lv_sub hl [0] rfl) (Eq.mp (congrArg (fun z => post z) ((S_X7_minute_35_s n σ j1).trans (if_pos c1))) hp)
    · skip
      have h1 : j1 < 3 := lt_of_nle (by omega) (by decide) c1
      refine lv_aload_n C.x C.b dX7_minute_40 rfl (lv_at hl 0 rfl) ?_
      refine lv_iload_n C.x C.b dX7_minute_41 rfl (lv_at hl 1 rfl) ?_
      refine caVv (As := [.int (nI j1)]) (rest := []) (q0 := 15) (ci := 7) C h (M_X7_falls l D E _ ok (nI j1) (vp_in_nI h1 (by decide))) cw_X7_157 m_im_X7_falls m_se_X7_falls rfl rfl ⟨Nat.le_of_ble_eq_true rfl, Nat.le_of_ble_eq_true rfl⟩ rfl rfl hl rfl (Nat.le_of_ble_eq_true rfl) dX7_minute_42 ⟨Nat.le_of_ble_eq_true rfl, Nat.le_of_ble_eq_true rfl⟩ (fun u H locs w2 h => ?_)
      subst w2
      refine lv_iinc (v := nI (j1 + 1)) (lv' := [(1, .int (nI (j1 + 1))), (0, .ref (ead E 15))]) C.x C.b dX7_minute_45 hl (k := 1) rfl (nI_1 _) (by decide) rfl (fun ls hl => ?_)
      refine lv_goto (tgt := 35) C.x C.b dX7_minute_48 (by decide) ?_
      exact ih (j1 := j1 + 1) (S_X7_falls_ok ok (nI j1)) (by omega) (by omega) h (lv_sub hl [1, 0] rfl) (Eq.mp (congrArg (fun z => post z) ((S_X7_minute_35_s n σ j1).trans (if_neg c1))) hp)
def S_X7_minute_30 (σ : St) (y0 : Int32) : St := S_X7_minute_35 4 (up2 σ 72 0 y0) 0
set_option maxRecDepth 100000 in
set_option maxHeartbeats 4000000 in
theorem K_X7_minute_30 {p : Program} {l : Launch} {e : Env} {s : State} {m : MethodId} {args : Array Value} {below : List Frame} {meth : Method} {c : Code} {D : va_G} {E : En} {A : Nat → Prop} {post : St → Prop} (C : CX p s m meth c cX7_minute RX7 3 D E A) {σ : St} (ok : OK E σ) {y0 : Int32} {H : Heap} {locs : List Loc} (h : HW D E σ A s H locs) (hr : meth.sig.returnType = none) {ls : Array Slot} (hl : lv_has ls 3 [(0, .ref (ead E 15))]) (hp : post (S_X7_minute_30 σ y0)) : W p l e rm_X7_minute s m args below meth c H locs 0 0 (MQ below (va_Qv post (POB D E A) A) args s 0 0 A) (F0 m 30 ls [.int y0, .ref (ead E 15)]) := by
  refine p_X7_133 C h dX7_minute_30 (fun H locs h => ?_)
  refine lv_iconst (v := 0) C.x C.b dX7_minute_33 (by decide) ?_
  refine lv_istore_n (lv' := [(1, .int 0), (0, .ref (ead E 15))]) C.x C.b dX7_minute_34 rfl hl (by decide) rfl (fun ls hl => ?_)
  exact K_X7_minute_35 C hr 4 (j1 := 0) (ok.up (by decide) _ _) (by omega) (by omega) h (lv_sub hl [1, 0] rfl) hp
def S_X7_minute (σ : St) : St := if (((σ 41 0) + 1) - ((σ 41 0) + 1) / 1440 * 1440) = 0 then S_X7_minute_30 (up2 σ 41 0 ((σ 41 0) + 1)) 0 else S_X7_minute_30 (up2 σ 41 0 ((σ 41 0) + 1)) (σ 72 0)
set_option maxRecDepth 100000 in
set_option maxHeartbeats 4000000 in
theorem K_X7_minute_0 {p : Program} {l : Launch} {e : Env} {s : State} {m : MethodId} {args : Array Value} {below : List Frame} {meth : Method} {c : Code} {D : va_G} {E : En} {A : Nat → Prop} {post : St → Prop} (C : CX p s m meth c cX7_minute RX7 3 D E A) {σ : St} (ok : OK E σ) {H : Heap} {locs : List Loc} (h : HW D E σ A s H locs) (hr : meth.sig.returnType = none) {ls : Array Slot} (hl : lv_has ls 3 [(0, .ref (ead E 15))]) (hp : post (S_X7_minute σ)) : W p l e rm_X7_minute s m args below meth c H locs 0 0 (MQ below (va_Qv post (POB D E A) A) args s 0 0 A) (F0 m 0 ls []) := by
  refine lv_aload_n C.x C.b dX7_minute_0 rfl (lv_at hl 0 rfl) ?_
  refine lv_dup C.x C.b dX7_minute_1 rfl ?_
  refine g_X7_100 C h dX7_minute_2 ?_
  refine lv_iconst (v := 1) C.x C.b dX7_minute_5 (by decide) ?_
  refine lv_iadd C.x C.b dX7_minute_6 ?_
  refine p_X7_100 C h dX7_minute_7 (fun H locs h => ?_)
  refine lv_aload_n C.x C.b dX7_minute_10 rfl (lv_at hl 0 rfl) ?_
  refine lv_aload_n C.x C.b dX7_minute_11 rfl (lv_at hl 0 rfl) ?_
  refine g_X7_100 C h dX7_minute_12 ?_
  refine lv_sipush (v := 1440) C.x C.b dX7_minute_15 (by decide) ?_
  refine lv_irem C.x C.b dX7_minute_18 (by decide) ?_
  refine lv_if_ne (tgt := 26) C.x C.b dX7_minute_19 (by decide) (fun c1 => ?_) (fun c1 => ?_)
  · skip
    refine lv_aload_n C.x C.b dX7_minute_26 rfl (lv_at hl 0 rfl) ?_
    refine g_X7_133 C h dX7_minute_27 ?_
    exact K_X7_minute_30 (y0 := (σ 72 0)) C (ok.up (by decide) _ _) h hr (lv_sub hl [0] rfl) (Eq.mp (congrArg (fun z => post z) (if_neg c1)) hp)
  · skip
    refine lv_iconst (v := 0) C.x C.b dX7_minute_22 (by decide) ?_
    refine lv_goto (tgt := 30) C.x C.b dX7_minute_23 (by decide) ?_
    exact K_X7_minute_30 (y0 := 0) C (ok.up (by decide) _ _) h hr (lv_sub hl [0] rfl) (Eq.mp (congrArg (fun z => post z) (if_pos c1)) hp)
theorem M_X7_minute (l : Launch) (D : va_G) (E : En) (σ : St) (ok : OK E σ) : CO l yX7_minute cX7_minute 3 none rm_X7_minute [.ref (ead E 15)] D E σ (fun A => va_Qv (fun u => (S_X7_minute σ) = u) (POB D E A) A) 0 0 :=
  CO.of RX7 (by decide +kernel) rfl (Nat.le_of_ble_eq_true rfl) (fun p e s m below meth c A ls C h hr hl => K_X7_minute_0 C ok h hr hl rfl)
theorem S_X7_minute_226_fr {f i : Nat} (σ : St) (hf : ∀ w ∈ [41, 46, 47, 59, 60, 63, 69, 70, 72, 74], f ≠ w) : (S_X7_minute_226 σ) f i = σ f i := by
  unfold S_X7_minute_226
  (repeat' split) <;> first | with_reducible rfl | (simp only [up2_f (hf 41 (by decide)), up2_f (hf 46 (by decide)), up2_f (hf 47 (by decide)), up2_f (hf 59 (by decide)), up2_f (hf 60 (by decide)), up2_f (hf 63 (by decide)), up2_f (hf 69 (by decide)), up2_f (hf 70 (by decide)), up2_f (hf 72 (by decide)), up2_f (hf 74 (by decide)), S_X7_cancels_fr _ _ (fun w hw => hf w ((by decide : ∀ w ∈ [59, 63], w ∈ [41, 46, 47, 59, 60, 63, 69, 70, 72, 74]) w hw)), S_X7_falls_fr _ _ (fun w hw => hf w ((by decide : ∀ w ∈ [46, 47], w ∈ [41, 46, 47, 59, 60, 63, 69, 70, 72, 74]) w hw)), S_X7_goesOn_fr _ _ (fun w hw => hf w ((by decide : ∀ w ∈ [59, 63], w ∈ [41, 46, 47, 59, 60, 63, 69, 70, 72, 74]) w hw)), S_X7_leaves_fr _  (fun w hw => hf w ((by decide : ∀ w ∈ [59, 60], w ∈ [41, 46, 47, 59, 60, 63, 69, 70, 72, 74]) w hw)), S_X7_ploughs_fr _  (fun w hw => hf w ((by decide : ∀ w ∈ [46, 47, 74], w ∈ [41, 46, 47, 59, 60, 63, 69, 70, 72, 74]) w hw))]; done)
theorem S_X7_minute_176_fr {f i : Nat} : ∀ (n : Nat) (σ : St) (j2 : Nat) (hf : ∀ w ∈ [41, 46, 47, 59, 60, 63, 69, 70, 72, 74], f ≠ w), (S_X7_minute_176 n σ j2) f i = σ f i
  | 0, σ, j2, hf => rfl
  | n + 1, σ, j2, hf => by
    rw [S_X7_minute_176_s]
    (repeat' split) <;> first | with_reducible rfl | (simp only [S_X7_minute_176_fr n _ _ hf, up2_f (hf 41 (by decide)), up2_f (hf 46 (by decide)), up2_f (hf 47 (by decide)), up2_f (hf 59 (by decide)), up2_f (hf 60 (by decide)), up2_f (hf 63 (by decide)), up2_f (hf 69 (by decide)), up2_f (hf 70 (by decide)), up2_f (hf 72 (by decide)), up2_f (hf 74 (by decide)), S_X7_cancels_fr _ _ (fun w hw => hf w ((by decide : ∀ w ∈ [59, 63], w ∈ [41, 46, 47, 59, 60, 63, 69, 70, 72, 74]) w hw)), S_X7_falls_fr _ _ (fun w hw => hf w ((by decide : ∀ w ∈ [46, 47], w ∈ [41, 46, 47, 59, 60, 63, 69, 70, 72, 74]) w hw)), S_X7_goesOn_fr _ _ (fun w hw => hf w ((by decide : ∀ w ∈ [59, 63], w ∈ [41, 46, 47, 59, 60, 63, 69, 70, 72, 74]) w hw)), S_X7_leaves_fr _  (fun w hw => hf w ((by decide : ∀ w ∈ [59, 60], w ∈ [41, 46, 47, 59, 60, 63, 69, 70, 72, 74]) w hw)), S_X7_ploughs_fr _  (fun w hw => hf w ((by decide : ∀ w ∈ [46, 47, 74], w ∈ [41, 46, 47, 59, 60, 63, 69, 70, 72, 74]) w hw)), S_X7_minute_226_fr _  hf]; done)
theorem S_X7_minute_174_fr {f i : Nat} (σ : St) (hf : ∀ w ∈ [41, 46, 47, 59, 60, 63, 69, 70, 72, 74], f ≠ w) : (S_X7_minute_174 σ) f i = σ f i := by
  unfold S_X7_minute_174
  (repeat' split) <;> first | with_reducible rfl | (simp only [up2_f (hf 41 (by decide)), up2_f (hf 46 (by decide)), up2_f (hf 47 (by decide)), up2_f (hf 59 (by decide)), up2_f (hf 60 (by decide)), up2_f (hf 63 (by decide)), up2_f (hf 69 (by decide)), up2_f (hf 70 (by decide)), up2_f (hf 72 (by decide)), up2_f (hf 74 (by decide)), S_X7_cancels_fr _ _ (fun w hw => hf w ((by decide : ∀ w ∈ [59, 63], w ∈ [41, 46, 47, 59, 60, 63, 69, 70, 72, 74]) w hw)), S_X7_falls_fr _ _ (fun w hw => hf w ((by decide : ∀ w ∈ [46, 47], w ∈ [41, 46, 47, 59, 60, 63, 69, 70, 72, 74]) w hw)), S_X7_goesOn_fr _ _ (fun w hw => hf w ((by decide : ∀ w ∈ [59, 63], w ∈ [41, 46, 47, 59, 60, 63, 69, 70, 72, 74]) w hw)), S_X7_leaves_fr _  (fun w hw => hf w ((by decide : ∀ w ∈ [59, 60], w ∈ [41, 46, 47, 59, 60, 63, 69, 70, 72, 74]) w hw)), S_X7_ploughs_fr _  (fun w hw => hf w ((by decide : ∀ w ∈ [46, 47, 74], w ∈ [41, 46, 47, 59, 60, 63, 69, 70, 72, 74]) w hw)), S_X7_minute_226_fr _  hf, S_X7_minute_176_fr _ _ _ hf]; done)
theorem S_X7_minute_122_fr {f i : Nat} : ∀ (n : Nat) (σ : St) (j2 : Nat) (hf : ∀ w ∈ [41, 46, 47, 59, 60, 63, 69, 70, 72, 74], f ≠ w), (S_X7_minute_122 n σ j2) f i = σ f i
  | 0, σ, j2, hf => rfl
  | n + 1, σ, j2, hf => by
    rw [S_X7_minute_122_s]
    (repeat' split) <;> first | with_reducible rfl | (simp only [S_X7_minute_122_fr n _ _ hf, up2_f (hf 41 (by decide)), up2_f (hf 46 (by decide)), up2_f (hf 47 (by decide)), up2_f (hf 59 (by decide)), up2_f (hf 60 (by decide)), up2_f (hf 63 (by decide)), up2_f (hf 69 (by decide)), up2_f (hf 70 (by decide)), up2_f (hf 72 (by decide)), up2_f (hf 74 (by decide)), S_X7_cancels_fr _ _ (fun w hw => hf w ((by decide : ∀ w ∈ [59, 63], w ∈ [41, 46, 47, 59, 60, 63, 69, 70, 72, 74]) w hw)), S_X7_falls_fr _ _ (fun w hw => hf w ((by decide : ∀ w ∈ [46, 47], w ∈ [41, 46, 47, 59, 60, 63, 69, 70, 72, 74]) w hw)), S_X7_goesOn_fr _ _ (fun w hw => hf w ((by decide : ∀ w ∈ [59, 63], w ∈ [41, 46, 47, 59, 60, 63, 69, 70, 72, 74]) w hw)), S_X7_leaves_fr _  (fun w hw => hf w ((by decide : ∀ w ∈ [59, 60], w ∈ [41, 46, 47, 59, 60, 63, 69, 70, 72, 74]) w hw)), S_X7_ploughs_fr _  (fun w hw => hf w ((by decide : ∀ w ∈ [46, 47, 74], w ∈ [41, 46, 47, 59, 60, 63, 69, 70, 72, 74]) w hw)), S_X7_minute_226_fr _  hf, S_X7_minute_176_fr _ _ _ hf, S_X7_minute_174_fr _  hf]; done)
theorem S_X7_minute_99_fr {f i : Nat} (σ : St) (y0 : Int32) (hf : ∀ w ∈ [41, 46, 47, 59, 60, 63, 69, 70, 72, 74], f ≠ w) : (S_X7_minute_99 σ y0) f i = σ f i := by
  unfold S_X7_minute_99
  (repeat' split) <;> first | with_reducible rfl | (simp only [up2_f (hf 41 (by decide)), up2_f (hf 46 (by decide)), up2_f (hf 47 (by decide)), up2_f (hf 59 (by decide)), up2_f (hf 60 (by decide)), up2_f (hf 63 (by decide)), up2_f (hf 69 (by decide)), up2_f (hf 70 (by decide)), up2_f (hf 72 (by decide)), up2_f (hf 74 (by decide)), S_X7_cancels_fr _ _ (fun w hw => hf w ((by decide : ∀ w ∈ [59, 63], w ∈ [41, 46, 47, 59, 60, 63, 69, 70, 72, 74]) w hw)), S_X7_falls_fr _ _ (fun w hw => hf w ((by decide : ∀ w ∈ [46, 47], w ∈ [41, 46, 47, 59, 60, 63, 69, 70, 72, 74]) w hw)), S_X7_goesOn_fr _ _ (fun w hw => hf w ((by decide : ∀ w ∈ [59, 63], w ∈ [41, 46, 47, 59, 60, 63, 69, 70, 72, 74]) w hw)), S_X7_leaves_fr _  (fun w hw => hf w ((by decide : ∀ w ∈ [59, 60], w ∈ [41, 46, 47, 59, 60, 63, 69, 70, 72, 74]) w hw)), S_X7_ploughs_fr _  (fun w hw => hf w ((by decide : ∀ w ∈ [46, 47, 74], w ∈ [41, 46, 47, 59, 60, 63, 69, 70, 72, 74]) w hw)), S_X7_minute_226_fr _  hf, S_X7_minute_176_fr _ _ _ hf, S_X7_minute_174_fr _  hf, S_X7_minute_122_fr _ _ _ hf]; done)
theorem S_X7_minute_83_fr {f i : Nat} (σ : St) (hf : ∀ w ∈ [41, 46, 47, 59, 60, 63, 69, 70, 72, 74], f ≠ w) : (S_X7_minute_83 σ) f i = σ f i := by
  unfold S_X7_minute_83
  (repeat' split) <;> first | with_reducible rfl | (simp only [up2_f (hf 41 (by decide)), up2_f (hf 46 (by decide)), up2_f (hf 47 (by decide)), up2_f (hf 59 (by decide)), up2_f (hf 60 (by decide)), up2_f (hf 63 (by decide)), up2_f (hf 69 (by decide)), up2_f (hf 70 (by decide)), up2_f (hf 72 (by decide)), up2_f (hf 74 (by decide)), S_X7_cancels_fr _ _ (fun w hw => hf w ((by decide : ∀ w ∈ [59, 63], w ∈ [41, 46, 47, 59, 60, 63, 69, 70, 72, 74]) w hw)), S_X7_falls_fr _ _ (fun w hw => hf w ((by decide : ∀ w ∈ [46, 47], w ∈ [41, 46, 47, 59, 60, 63, 69, 70, 72, 74]) w hw)), S_X7_goesOn_fr _ _ (fun w hw => hf w ((by decide : ∀ w ∈ [59, 63], w ∈ [41, 46, 47, 59, 60, 63, 69, 70, 72, 74]) w hw)), S_X7_leaves_fr _  (fun w hw => hf w ((by decide : ∀ w ∈ [59, 60], w ∈ [41, 46, 47, 59, 60, 63, 69, 70, 72, 74]) w hw)), S_X7_ploughs_fr _  (fun w hw => hf w ((by decide : ∀ w ∈ [46, 47, 74], w ∈ [41, 46, 47, 59, 60, 63, 69, 70, 72, 74]) w hw)), S_X7_minute_226_fr _  hf, S_X7_minute_176_fr _ _ _ hf, S_X7_minute_174_fr _  hf, S_X7_minute_122_fr _ _ _ hf, S_X7_minute_99_fr _ _ hf]; done)
theorem S_X7_minute_64_fr {f i : Nat} : ∀ (n : Nat) (σ : St) (j1 : Nat) (hf : ∀ w ∈ [41, 46, 47, 59, 60, 63, 69, 70, 72, 74], f ≠ w), (S_X7_minute_64 n σ j1) f i = σ f i
  | 0, σ, j1, hf => rfl
  | n + 1, σ, j1, hf => by
    rw [S_X7_minute_64_s]
    (repeat' split) <;> first | with_reducible rfl | (simp only [S_X7_minute_64_fr n _ _ hf, up2_f (hf 41 (by decide)), up2_f (hf 46 (by decide)), up2_f (hf 47 (by decide)), up2_f (hf 59 (by decide)), up2_f (hf 60 (by decide)), up2_f (hf 63 (by decide)), up2_f (hf 69 (by decide)), up2_f (hf 70 (by decide)), up2_f (hf 72 (by decide)), up2_f (hf 74 (by decide)), S_X7_cancels_fr _ _ (fun w hw => hf w ((by decide : ∀ w ∈ [59, 63], w ∈ [41, 46, 47, 59, 60, 63, 69, 70, 72, 74]) w hw)), S_X7_falls_fr _ _ (fun w hw => hf w ((by decide : ∀ w ∈ [46, 47], w ∈ [41, 46, 47, 59, 60, 63, 69, 70, 72, 74]) w hw)), S_X7_goesOn_fr _ _ (fun w hw => hf w ((by decide : ∀ w ∈ [59, 63], w ∈ [41, 46, 47, 59, 60, 63, 69, 70, 72, 74]) w hw)), S_X7_leaves_fr _  (fun w hw => hf w ((by decide : ∀ w ∈ [59, 60], w ∈ [41, 46, 47, 59, 60, 63, 69, 70, 72, 74]) w hw)), S_X7_ploughs_fr _  (fun w hw => hf w ((by decide : ∀ w ∈ [46, 47, 74], w ∈ [41, 46, 47, 59, 60, 63, 69, 70, 72, 74]) w hw)), S_X7_minute_226_fr _  hf, S_X7_minute_176_fr _ _ _ hf, S_X7_minute_174_fr _  hf, S_X7_minute_122_fr _ _ _ hf, S_X7_minute_99_fr _ _ hf, S_X7_minute_83_fr _  hf]; done)
theorem S_X7_minute_62_fr {f i : Nat} (σ : St) (hf : ∀ w ∈ [41, 46, 47, 59, 60, 63, 69, 70, 72, 74], f ≠ w) : (S_X7_minute_62 σ) f i = σ f i := by
  unfold S_X7_minute_62
  (repeat' split) <;> first | with_reducible rfl | (simp only [up2_f (hf 41 (by decide)), up2_f (hf 46 (by decide)), up2_f (hf 47 (by decide)), up2_f (hf 59 (by decide)), up2_f (hf 60 (by decide)), up2_f (hf 63 (by decide)), up2_f (hf 69 (by decide)), up2_f (hf 70 (by decide)), up2_f (hf 72 (by decide)), up2_f (hf 74 (by decide)), S_X7_cancels_fr _ _ (fun w hw => hf w ((by decide : ∀ w ∈ [59, 63], w ∈ [41, 46, 47, 59, 60, 63, 69, 70, 72, 74]) w hw)), S_X7_falls_fr _ _ (fun w hw => hf w ((by decide : ∀ w ∈ [46, 47], w ∈ [41, 46, 47, 59, 60, 63, 69, 70, 72, 74]) w hw)), S_X7_goesOn_fr _ _ (fun w hw => hf w ((by decide : ∀ w ∈ [59, 63], w ∈ [41, 46, 47, 59, 60, 63, 69, 70, 72, 74]) w hw)), S_X7_leaves_fr _  (fun w hw => hf w ((by decide : ∀ w ∈ [59, 60], w ∈ [41, 46, 47, 59, 60, 63, 69, 70, 72, 74]) w hw)), S_X7_ploughs_fr _  (fun w hw => hf w ((by decide : ∀ w ∈ [46, 47, 74], w ∈ [41, 46, 47, 59, 60, 63, 69, 70, 72, 74]) w hw)), S_X7_minute_226_fr _  hf, S_X7_minute_176_fr _ _ _ hf, S_X7_minute_174_fr _  hf, S_X7_minute_122_fr _ _ _ hf, S_X7_minute_99_fr _ _ hf, S_X7_minute_83_fr _  hf, S_X7_minute_64_fr _ _ _ hf]; done)
theorem S_X7_minute_51_fr {f i : Nat} (σ : St) (hf : ∀ w ∈ [41, 46, 47, 59, 60, 63, 69, 70, 72, 74], f ≠ w) : (S_X7_minute_51 σ) f i = σ f i := by
  unfold S_X7_minute_51
  (repeat' split) <;> first | with_reducible rfl | (simp only [up2_f (hf 41 (by decide)), up2_f (hf 46 (by decide)), up2_f (hf 47 (by decide)), up2_f (hf 59 (by decide)), up2_f (hf 60 (by decide)), up2_f (hf 63 (by decide)), up2_f (hf 69 (by decide)), up2_f (hf 70 (by decide)), up2_f (hf 72 (by decide)), up2_f (hf 74 (by decide)), S_X7_cancels_fr _ _ (fun w hw => hf w ((by decide : ∀ w ∈ [59, 63], w ∈ [41, 46, 47, 59, 60, 63, 69, 70, 72, 74]) w hw)), S_X7_falls_fr _ _ (fun w hw => hf w ((by decide : ∀ w ∈ [46, 47], w ∈ [41, 46, 47, 59, 60, 63, 69, 70, 72, 74]) w hw)), S_X7_goesOn_fr _ _ (fun w hw => hf w ((by decide : ∀ w ∈ [59, 63], w ∈ [41, 46, 47, 59, 60, 63, 69, 70, 72, 74]) w hw)), S_X7_leaves_fr _  (fun w hw => hf w ((by decide : ∀ w ∈ [59, 60], w ∈ [41, 46, 47, 59, 60, 63, 69, 70, 72, 74]) w hw)), S_X7_ploughs_fr _  (fun w hw => hf w ((by decide : ∀ w ∈ [46, 47, 74], w ∈ [41, 46, 47, 59, 60, 63, 69, 70, 72, 74]) w hw)), S_X7_minute_226_fr _  hf, S_X7_minute_176_fr _ _ _ hf, S_X7_minute_174_fr _  hf, S_X7_minute_122_fr _ _ _ hf, S_X7_minute_99_fr _ _ hf, S_X7_minute_83_fr _  hf, S_X7_minute_64_fr _ _ _ hf, S_X7_minute_62_fr _  hf]; done)
theorem S_X7_minute_35_fr {f i : Nat} : ∀ (n : Nat) (σ : St) (j1 : Nat) (hf : ∀ w ∈ [41, 46, 47, 59, 60, 63, 69, 70, 72, 74], f ≠ w), (S_X7_minute_35 n σ j1) f i = σ f i
  | 0, σ, j1, hf => rfl
  | n + 1, σ, j1, hf => by
    rw [S_X7_minute_35_s]
    (repeat' split) <;> first | with_reducible rfl | (simp only [S_X7_minute_35_fr n _ _ hf, up2_f (hf 41 (by decide)), up2_f (hf 46 (by decide)), up2_f (hf 47 (by decide)), up2_f (hf 59 (by decide)), up2_f (hf 60 (by decide)), up2_f (hf 63 (by decide)), up2_f (hf 69 (by decide)), up2_f (hf 70 (by decide)), up2_f (hf 72 (by decide)), up2_f (hf 74 (by decide)), S_X7_cancels_fr _ _ (fun w hw => hf w ((by decide : ∀ w ∈ [59, 63], w ∈ [41, 46, 47, 59, 60, 63, 69, 70, 72, 74]) w hw)), S_X7_falls_fr _ _ (fun w hw => hf w ((by decide : ∀ w ∈ [46, 47], w ∈ [41, 46, 47, 59, 60, 63, 69, 70, 72, 74]) w hw)), S_X7_goesOn_fr _ _ (fun w hw => hf w ((by decide : ∀ w ∈ [59, 63], w ∈ [41, 46, 47, 59, 60, 63, 69, 70, 72, 74]) w hw)), S_X7_leaves_fr _  (fun w hw => hf w ((by decide : ∀ w ∈ [59, 60], w ∈ [41, 46, 47, 59, 60, 63, 69, 70, 72, 74]) w hw)), S_X7_ploughs_fr _  (fun w hw => hf w ((by decide : ∀ w ∈ [46, 47, 74], w ∈ [41, 46, 47, 59, 60, 63, 69, 70, 72, 74]) w hw)), S_X7_minute_226_fr _  hf, S_X7_minute_176_fr _ _ _ hf, S_X7_minute_174_fr _  hf, S_X7_minute_122_fr _ _ _ hf, S_X7_minute_99_fr _ _ hf, S_X7_minute_83_fr _  hf, S_X7_minute_64_fr _ _ _ hf, S_X7_minute_62_fr _  hf, S_X7_minute_51_fr _  hf]; done)
theorem S_X7_minute_30_fr {f i : Nat} (σ : St) (y0 : Int32) (hf : ∀ w ∈ [41, 46, 47, 59, 60, 63, 69, 70, 72, 74], f ≠ w) : (S_X7_minute_30 σ y0) f i = σ f i := by
  unfold S_X7_minute_30
  (repeat' split) <;> first | with_reducible rfl | (simp only [up2_f (hf 41 (by decide)), up2_f (hf 46 (by decide)), up2_f (hf 47 (by decide)), up2_f (hf 59 (by decide)), up2_f (hf 60 (by decide)), up2_f (hf 63 (by decide)), up2_f (hf 69 (by decide)), up2_f (hf 70 (by decide)), up2_f (hf 72 (by decide)), up2_f (hf 74 (by decide)), S_X7_cancels_fr _ _ (fun w hw => hf w ((by decide : ∀ w ∈ [59, 63], w ∈ [41, 46, 47, 59, 60, 63, 69, 70, 72, 74]) w hw)), S_X7_falls_fr _ _ (fun w hw => hf w ((by decide : ∀ w ∈ [46, 47], w ∈ [41, 46, 47, 59, 60, 63, 69, 70, 72, 74]) w hw)), S_X7_goesOn_fr _ _ (fun w hw => hf w ((by decide : ∀ w ∈ [59, 63], w ∈ [41, 46, 47, 59, 60, 63, 69, 70, 72, 74]) w hw)), S_X7_leaves_fr _  (fun w hw => hf w ((by decide : ∀ w ∈ [59, 60], w ∈ [41, 46, 47, 59, 60, 63, 69, 70, 72, 74]) w hw)), S_X7_ploughs_fr _  (fun w hw => hf w ((by decide : ∀ w ∈ [46, 47, 74], w ∈ [41, 46, 47, 59, 60, 63, 69, 70, 72, 74]) w hw)), S_X7_minute_226_fr _  hf, S_X7_minute_176_fr _ _ _ hf, S_X7_minute_174_fr _  hf, S_X7_minute_122_fr _ _ _ hf, S_X7_minute_99_fr _ _ hf, S_X7_minute_83_fr _  hf, S_X7_minute_64_fr _ _ _ hf, S_X7_minute_62_fr _  hf, S_X7_minute_51_fr _  hf, S_X7_minute_35_fr _ _ _ hf]; done)
theorem S_X7_minute_fr {f i : Nat} (σ : St) (hf : ∀ w ∈ [41, 46, 47, 59, 60, 63, 69, 70, 72, 74], f ≠ w) : (S_X7_minute σ) f i = σ f i := by
  unfold S_X7_minute
  (repeat' split) <;> first | with_reducible rfl | (simp only [up2_f (hf 41 (by decide)), up2_f (hf 46 (by decide)), up2_f (hf 47 (by decide)), up2_f (hf 59 (by decide)), up2_f (hf 60 (by decide)), up2_f (hf 63 (by decide)), up2_f (hf 69 (by decide)), up2_f (hf 70 (by decide)), up2_f (hf 72 (by decide)), up2_f (hf 74 (by decide)), S_X7_cancels_fr _ _ (fun w hw => hf w ((by decide : ∀ w ∈ [59, 63], w ∈ [41, 46, 47, 59, 60, 63, 69, 70, 72, 74]) w hw)), S_X7_falls_fr _ _ (fun w hw => hf w ((by decide : ∀ w ∈ [46, 47], w ∈ [41, 46, 47, 59, 60, 63, 69, 70, 72, 74]) w hw)), S_X7_goesOn_fr _ _ (fun w hw => hf w ((by decide : ∀ w ∈ [59, 63], w ∈ [41, 46, 47, 59, 60, 63, 69, 70, 72, 74]) w hw)), S_X7_leaves_fr _  (fun w hw => hf w ((by decide : ∀ w ∈ [59, 60], w ∈ [41, 46, 47, 59, 60, 63, 69, 70, 72, 74]) w hw)), S_X7_ploughs_fr _  (fun w hw => hf w ((by decide : ∀ w ∈ [46, 47, 74], w ∈ [41, 46, 47, 59, 60, 63, 69, 70, 72, 74]) w hw)), S_X7_minute_226_fr _  hf, S_X7_minute_176_fr _ _ _ hf, S_X7_minute_174_fr _  hf, S_X7_minute_122_fr _ _ _ hf, S_X7_minute_99_fr _ _ hf, S_X7_minute_83_fr _  hf, S_X7_minute_64_fr _ _ _ hf, S_X7_minute_62_fr _  hf, S_X7_minute_51_fr _  hf, S_X7_minute_35_fr _ _ _ hf, S_X7_minute_30_fr _ _ hf]; done)
theorem S_X7_minute_ok {E : En} {σ : St} (ok : OK E σ) : OK E (S_X7_minute σ) :=
  ok.of_fr (fun f i hf => S_X7_minute_fr σ (fun w hw q => absurd (show w ∈ [1, 3, 33, 43, 55, 66] by rw [← q]; exact hf) ((by decide : ∀ w ∈ [41, 46, 47, 59, 60, 63, 69, 70, 72, 74], w ∉ [1, 3, 33, 43, 55, 66]) w hw)))
