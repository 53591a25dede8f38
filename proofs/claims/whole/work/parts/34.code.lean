abbrev YX12_isIn : YT := (RX12, cX12_isIn, 6, 0, 0, 3)
theorem cf_X12_isIn : CF yX12_isIn 3 := ⟨by decide +kernel, by decide +kernel, by decide +kernel⟩
def sX12_isIn : QT :=
 (sRet (eB (cAnd (cB qge (eV 0) (eV 2)) (cB qle (eV 0) (eV 4)))))
set_option maxRecDepth 100000 in
theorem oX12_isIn : OkS YX12_isIn [(0, 1), (2, 1), (4, 1)] [(0, 1), (2, 1), (4, 1)] 0 [] [] [] [] [] sX12_isIn := by
  unfold sX12_isIn
  exact (okRet (p1 := 18) (τ := 3) (okBv (pt := 13) (pf := 17) (pe := 18) (okAnd (p1 := 6) (okCBf (p1 := 1) (p2 := 2) (τa := 1) (τb := 1) (ok_lload_n dX12_isIn_0 (.head _) rfl (.head _)) (ok_lload_n dX12_isIn_1 (.head _) rfl (.tail _ (.head _))) (j_lcmp_lt dX12_isIn_2 dX12_isIn_3 rfl) nq_ge (.head _) (.head _)) (okCBf (p1 := 7) (p2 := 9) (τa := 1) (τb := 1) (ok_lload_n dX12_isIn_6 (.head _) rfl (.head _)) (ok_lload dX12_isIn_7 (.head _) (.tail _ (.tail _ (.head _)))) (j_lcmp_gt dX12_isIn_9 dX12_isIn_10 rfl) nq_le (.head _) (.head _))) dX12_isIn_13 dX12_isIn_14 rfl dX12_isIn_17 (.head _) (.head _)) rfl (by decide) dX12_isIn_18)
def mX12_isIn : QM := qM [1, 1, 1] sX12_isIn
theorem MX12_isIn : MetY YX12_isIn yX12_isIn (some .boolean) [1, 1, 1] mX12_isIn := metY_of rfl (by decide +kernel) (.inr (.inl ⟨rfl, rfl⟩)) (by decide) oX12_isIn

abbrev YX12_held : YT := (RX12, cX12_held, 2, 0, 0, 1)
theorem cf_X12_held : CF yX12_held 1 := ⟨by decide +kernel, by decide +kernel, by decide +kernel⟩
def sX12_held : QT :=
 (sRet (eIf (cB qgt (eV 0) (eI 2000000000)) (eI 2000000000) (eIf (cB qlt (eV 0) (eI (-2000000000))) (eI (-2000000000)) (eV 0))))
set_option maxRecDepth 100000 in
theorem oX12_held : OkS YX12_held [(0, 1)] [(0, 1)] 0 [] [] [] [] [] sX12_held := by
  unfold sX12_held
  exact (okRet (p1 := 29) (τ := 1) (okIfE (pt := 8) (pf := 14) (p1 := 11) (pe := 29) (okCBf (p1 := 1) (p2 := 4) (τa := 1) (τb := 1) (ok_lload_n dX12_held_0 (.head _) rfl (.head _)) (ok_ldc2 kj_X12_138 (by decide) dX12_held_1 (.head _)) (j_lcmp_le dX12_held_4 dX12_held_5 rfl) nq_gt (.head _) (.head _)) (ok_ldc2 kj_X12_138 (by decide) dX12_held_8 (.head _)) dX12_held_11 rfl (.head _) (okIfE (pt := 22) (pf := 28) (p1 := 25) (pe := 29) (okCBf (p1 := 15) (p2 := 18) (τa := 1) (τb := 1) (ok_lload_n dX12_held_14 (.head _) rfl (.head _)) (ok_ldc2 kj_X12_140 (by decide) dX12_held_15 (.head _)) (j_lcmp_ge dX12_held_18 dX12_held_19 rfl) nq_lt (.head _) (.head _)) (ok_ldc2 kj_X12_140 (by decide) dX12_held_22 (.head _)) dX12_held_25 rfl (.head _) (ok_lload_n dX12_held_28 (.head _) rfl (.head _)))) rfl (by decide) dX12_held_29)
def mX12_held : QM := qM [1] sX12_held
theorem MX12_held : MetY YX12_held yX12_held (some .long) [1] mX12_held := metY_of rfl (by decide +kernel) (.inr (.inr (.inl ⟨rfl, rfl⟩))) (by decide) oX12_held

abbrev YX12_own : YT := (RX12, cX12_own, 2, 0, 0, 0)
theorem cf_X12_own : CF yX12_own 2 := ⟨by decide +kernel, by decide +kernel, by decide +kernel⟩
def sX12_own : QT :=
 (sRet (e2 iA (e2 iM (eI 4) (eV 0)) (eV 1)))
set_option maxRecDepth 100000 in
theorem oX12_own : OkS YX12_own [(0, 0), (1, 0)] [(0, 0), (1, 0)] 0 [] [] [] [] [] sX12_own := by
  unfold sX12_own
  exact (okRet (p1 := 5) (τ := 0) (okE2 (p1 := 3) (p2 := 4) (τa := 0) (τb := 0) (okE2 (p1 := 1) (p2 := 2) (τa := 0) (τb := 0) (ok_iconst dX12_own_0 (.head _) (irn (by decide) (by decide))) (ok_iload_n dX12_own_1 (.head _) rfl (.head _) t_0) (s_imul dX12_own_2 (.head _))) (ok_iload_n dX12_own_3 (.head _) rfl (.tail _ (.head _)) t_0) (s_iadd dX12_own_4 (.head _))) rfl (by decide) dX12_own_5)
def mX12_own : QM := qM [0, 0] sX12_own
theorem MX12_own : MetY YX12_own yX12_own (some .int) [0, 0] mX12_own := metY_of rfl (by decide +kernel) (.inl ⟨rfl, rfl⟩) (by decide) oX12_own

abbrev YX12_clearBank : YT := (RX12, cX12_clearBank, 3, 1, 21, 9)
theorem cf_X12_clearBank : CF yX12_clearBank 1 := ⟨by decide +kernel, by decide +kernel, by decide +kernel⟩
def cX12_clearBank_1 : QC :=
 (cB qlt (eV 2) (eI 4))
def bX12_clearBank_1 : QT :=
 (sArr 44 (eF 12 17 (eV 0)) (eCall mX12_own [(eV 1), (eV 2)]) (eI 0))
def uX12_clearBank_1 : QT :=
 (sInc 2 1)
set_option maxRecDepth 100000 in
theorem obX12_clearBank_1 : OkS YX12_clearBank [(0, 2), (1, 0), (2, 0)] [(0, 2), (1, 0), (2, 0)] 49 [60] [(0, 2), (1, 0), (2, 0)] [66] [(0, 2), (1, 0), (2, 0)] [60] bX12_clearBank_1 := by
  unfold bX12_clearBank_1
  exact (okArr (p1 := 53) (p2 := 58) (p3 := 59) (by decide) (okF (p1 := 50) (k := 17) (ok_aload_n dX12_clearBank_49 (.head _) rfl (.head _)) ci_12 (by decide) kf_X12_62 dX12_clearBank_50 (.head _) rfl rfl) (okCallS (p1 := 55) (okCons (p1 := 54) (ok_iload_n dX12_clearBank_53 (.head _) rfl (.tail _ (.head _)) t_0) (okCons (p1 := 55) (ok_iload_n dX12_clearBank_54 (.head _) rfl (.tail _ (.tail _ (.head _))) t_0) okNil)) MX12_own cf_X12_own rfl kc_X12_own km_X12_142 ks_X12_own kn_X12 (Nat.le_of_ble_eq_true rfl) (Nat.le_of_ble_eq_true rfl) dX12_clearBank_55 (.head _) (by decide) rfl (by decide)) (okI (τ := 3) (ok_zconst dX12_clearBank_58 (.head _) ⟨by decide, by decide⟩) t_3) dX12_clearBank_59 (.head _))
set_option maxRecDepth 100000 in
theorem ocX12_clearBank_1 : OkC YX12_clearBank [(0, 2), (1, 0), (2, 0)] 0 44 [49] [66] cX12_clearBank_1 := by
  unfold cX12_clearBank_1
  exact (okCBf (p1 := 45) (p2 := 46) (τa := 0) (τb := 0) (ok_iload_n dX12_clearBank_44 (.head _) rfl (.tail _ (.tail _ (.head _))) t_0) (ok_iconst dX12_clearBank_45 (.head _) (irn (by decide) (by decide))) (j_icmp_ge dX12_clearBank_46 rfl) nq_lt (.head _) (.head _))
set_option maxRecDepth 100000 in
theorem ouX12_clearBank_1 : ∀ t ∈ ([60] : List Nat), OkS YX12_clearBank [(0, 2), (1, 0), (2, 0)] [(0, 2), (1, 0), (2, 0)] t [44] [] [] [] [] uX12_clearBank_1 := by
  unfold uX12_clearBank_1
  exact (one (okEnd (p1 := 63) (tg := 44) (okInc (.tail _ (.tail _ (.head _))) dX12_clearBank_60 (by decide) (.head _) (by decide)) dX12_clearBank_63 rfl (.head _)))
def sX12_clearBank : QT :=
 (sSeq (sArr 40 (eF 12 1 (eV 0)) (eV 1) (eI 1))
 (sSeq (sArr 40 (eF 12 2 (eV 0)) (eV 1) (eI 0))
 (sSeq (sArr 40 (eF 12 3 (eV 0)) (eV 1) (eI 0))
 (sSeq (sArr 40 (eF 12 4 (eV 0)) (eV 1) (eI 0))
 (sSeq (sArr 40 (eF 12 5 (eV 0)) (eV 1) (eI 0))
 (sSeq (sArr 40 (eF 12 6 (eV 0)) (eV 1) (eI 0))
 (sSeq (sSeq (sSet 2 (eI 0))
 (sWhile cX12_clearBank_1 bX12_clearBank_1 uX12_clearBank_1))
 sRetV)))))))
set_option maxRecDepth 100000 in
theorem oX12_clearBank : OkS YX12_clearBank [(0, 2), (1, 0)] [(0, 2), (1, 0)] 0 [] [] [] [] [] sX12_clearBank := by
  unfold sX12_clearBank
  exact (okSeq (p1 := 7) (Γ1 := [(0, 2), (1, 0)]) (okArr (p1 := 4) (p2 := 5) (p3 := 6) (by decide) (okF (p1 := 1) (k := 1) (ok_aload_n dX12_clearBank_0 (.head _) rfl (.head _)) ci_12 (by decide) kf_X12_13 dX12_clearBank_1 (.head _) rfl rfl) (ok_iload_n dX12_clearBank_4 (.head _) rfl (.tail _ (.head _)) t_0) (ok_iconst dX12_clearBank_5 (.head _) (irn (by decide) (by decide))) dX12_clearBank_6 (.head _))
 (okSeq (p1 := 14) (Γ1 := [(0, 2), (1, 0)]) (okArr (p1 := 11) (p2 := 12) (p3 := 13) (by decide) (okF (p1 := 8) (k := 2) (ok_aload_n dX12_clearBank_7 (.head _) rfl (.head _)) ci_12 (by decide) kf_X12_17 dX12_clearBank_8 (.head _) rfl rfl) (ok_iload_n dX12_clearBank_11 (.head _) rfl (.tail _ (.head _)) t_0) (ok_iconst dX12_clearBank_12 (.head _) (irn (by decide) (by decide))) dX12_clearBank_13 (.head _))
 (okSeq (p1 := 21) (Γ1 := [(0, 2), (1, 0)]) (okArr (p1 := 18) (p2 := 19) (p3 := 20) (by decide) (okF (p1 := 15) (k := 3) (ok_aload_n dX12_clearBank_14 (.head _) rfl (.head _)) ci_12 (by decide) kf_X12_20 dX12_clearBank_15 (.head _) rfl rfl) (ok_iload_n dX12_clearBank_18 (.head _) rfl (.tail _ (.head _)) t_0) (ok_iconst dX12_clearBank_19 (.head _) (irn (by decide) (by decide))) dX12_clearBank_20 (.head _))
 (okSeq (p1 := 28) (Γ1 := [(0, 2), (1, 0)]) (okArr (p1 := 25) (p2 := 26) (p3 := 27) (by decide) (okF (p1 := 22) (k := 4) (ok_aload_n dX12_clearBank_21 (.head _) rfl (.head _)) ci_12 (by decide) kf_X12_23 dX12_clearBank_22 (.head _) rfl rfl) (ok_iload_n dX12_clearBank_25 (.head _) rfl (.tail _ (.head _)) t_0) (ok_iconst dX12_clearBank_26 (.head _) (irn (by decide) (by decide))) dX12_clearBank_27 (.head _))
 (okSeq (p1 := 35) (Γ1 := [(0, 2), (1, 0)]) (okArr (p1 := 32) (p2 := 33) (p3 := 34) (by decide) (okF (p1 := 29) (k := 5) (ok_aload_n dX12_clearBank_28 (.head _) rfl (.head _)) ci_12 (by decide) kf_X12_26 dX12_clearBank_29 (.head _) rfl rfl) (ok_iload_n dX12_clearBank_32 (.head _) rfl (.tail _ (.head _)) t_0) (ok_iconst dX12_clearBank_33 (.head _) (irn (by decide) (by decide))) dX12_clearBank_34 (.head _))
 (okSeq (p1 := 42) (Γ1 := [(0, 2), (1, 0)]) (okArr (p1 := 39) (p2 := 40) (p3 := 41) (by decide) (okF (p1 := 36) (k := 6) (ok_aload_n dX12_clearBank_35 (.head _) rfl (.head _)) ci_12 (by decide) kf_X12_29 dX12_clearBank_36 (.head _) rfl rfl) (ok_iload_n dX12_clearBank_39 (.head _) rfl (.tail _ (.head _)) t_0) (ok_iconst dX12_clearBank_40 (.head _) (irn (by decide) (by decide))) dX12_clearBank_41 (.head _))
 (okSeq (p1 := 66) (Γ1 := [(0, 2), (1, 0)]) (okWeak (Γ1 := [(0, 2), (1, 0), (2, 0)]) (okSeq (p1 := 44) (Γ1 := [(0, 2), (1, 0), (2, 0)]) (ok_istore_n (Γ' := [(0, 2), (1, 0), (2, 0)]) (p1 := 43) (τ := 0) (ok_iconst dX12_clearBank_42 (.head _) (irn (by decide) (by decide))) t_0 dX12_clearBank_43 rfl (by decide) (.head _) (by decide))
 (okWhile (T := [49]) (F := [66]) (Eb := [60]) ocX12_clearBank_1 (fun _ h => h) (one obX12_clearBank_1) ouX12_clearBank_1)) (by decide))
 (okRetV rfl dX12_clearBank_66))))))))
def mX12_clearBank : QM := qM [2, 0] sX12_clearBank
theorem MX12_clearBank : MetY YX12_clearBank yX12_clearBank none [2, 0] mX12_clearBank := metY_of rfl (by decide +kernel) (.inr (.inr (.inr (.inl ⟨rfl, rfl⟩)))) (by decide) oX12_clearBank

abbrev YX12_feed : YT := (RX12, cX12_feed, 8, 0, 0, 0)
theorem cf_X12_feed : CF yX12_feed 5 := ⟨by decide +kernel, by decide +kernel, by decide +kernel⟩
def cX12_feed_1 : QC :=
 (cB qlt (eV 6) (eI 20))
def bX12_feed_1 : QT :=
 (sSeq (sSet 7 (eIf (cB qlt (eV 6) (eI 4)) (eV 1) (eIf (cB qlt (eV 6) (eI 8)) (eV 2) (eIf (cB qlt (eV 6) (eI 12)) (eV 3) (eIf (cB qlt (eV 6) (eI 16)) (eV 4) (eV 5))))))
 (sArr 42 (eF 12 29 (eV 0)) (e2 iA (eF 12 30 (eV 0)) (eV 6)) (e1 w8 (e2 iSr (eV 7) (e2 iS (eI 24) (e2 iM (eI 8) (e2 iAn (eV 6) (eI 3))))))))
def uX12_feed_1 : QT :=
 (sInc 6 1)
set_option maxRecDepth 100000 in
theorem obX12_feed_1 : OkS YX12_feed [(0, 2), (1, 0), (2, 0), (3, 0), (4, 0), (5, 0), (6, 0)] [(0, 2), (1, 0), (2, 0), (3, 0), (4, 0), (5, 0), (6, 0)] 25 [99] [(0, 2), (1, 0), (2, 0), (3, 0), (4, 0), (5, 0), (6, 0)] [105] [(0, 2), (1, 0), (2, 0), (3, 0), (4, 0), (5, 0), (6, 0)] [99] bX12_feed_1 := by
  unfold bX12_feed_1
  exact (okWeak (Γ1 := [(0, 2), (1, 0), (2, 0), (3, 0), (4, 0), (5, 0), (6, 0), (7, 0)]) (okSeq (p1 := 73) (Γ1 := [(0, 2), (1, 0), (2, 0), (3, 0), (4, 0), (5, 0), (6, 0), (7, 0)]) (ok_istore (Γ' := [(0, 2), (1, 0), (2, 0), (3, 0), (4, 0), (5, 0), (6, 0), (7, 0)]) (p1 := 71) (τ := 0) (okIfE (pt := 31) (pf := 35) (p1 := 32) (pe := 71) (okCBf (p1 := 27) (p2 := 28) (τa := 0) (τb := 0) (ok_iload dX12_feed_25 (.head _) (.tail _ (.tail _ (.tail _ (.tail _ (.tail _ (.tail _ (.head _))))))) t_0) (ok_iconst dX12_feed_27 (.head _) (irn (by decide) (by decide))) (j_icmp_ge dX12_feed_28 rfl) nq_lt (.head _) (.head _)) (ok_iload_n dX12_feed_31 (.head _) rfl (.tail _ (.head _)) t_0) dX12_feed_32 rfl (.head _) (okIfE (pt := 42) (pf := 46) (p1 := 43) (pe := 71) (okCBf (p1 := 37) (p2 := 39) (τa := 0) (τb := 0) (ok_iload dX12_feed_35 (.head _) (.tail _ (.tail _ (.tail _ (.tail _ (.tail _ (.tail _ (.head _))))))) t_0) (ok_bipush dX12_feed_37 (.head _) (irn4 (by decide) (by decide))) (j_icmp_ge dX12_feed_39 rfl) nq_lt (.head _) (.head _)) (ok_iload_n dX12_feed_42 (.head _) rfl (.tail _ (.tail _ (.head _))) t_0) dX12_feed_43 rfl (.head _) (okIfE (pt := 53) (pf := 57) (p1 := 54) (pe := 71) (okCBf (p1 := 48) (p2 := 50) (τa := 0) (τb := 0) (ok_iload dX12_feed_46 (.head _) (.tail _ (.tail _ (.tail _ (.tail _ (.tail _ (.tail _ (.head _))))))) t_0) (ok_bipush dX12_feed_48 (.head _) (irn4 (by decide) (by decide))) (j_icmp_ge dX12_feed_50 rfl) nq_lt (.head _) (.head _)) (ok_iload_n dX12_feed_53 (.head _) rfl (.tail _ (.tail _ (.tail _ (.head _)))) t_0) dX12_feed_54 rfl (.head _) (okIfE (pt := 64) (pf := 69) (p1 := 66) (pe := 71) (okCBf (p1 := 59) (p2 := 61) (τa := 0) (τb := 0) (ok_iload dX12_feed_57 (.head _) (.tail _ (.tail _ (.tail _ (.tail _ (.tail _ (.tail _ (.head _))))))) t_0) (ok_bipush dX12_feed_59 (.head _) (irn4 (by decide) (by decide))) (j_icmp_ge dX12_feed_61 rfl) nq_lt (.head _) (.head _)) (ok_iload dX12_feed_64 (.head _) (.tail _ (.tail _ (.tail _ (.tail _ (.head _))))) t_0) dX12_feed_66 rfl (.head _) (ok_iload dX12_feed_69 (.head _) (.tail _ (.tail _ (.tail _ (.tail _ (.tail _ (.head _)))))) t_0))))) t_0 dX12_feed_71 (by decide) (.head _) (by decide))
 (okArr (p1 := 77) (p2 := 84) (p3 := 98) (by decide) (okF (p1 := 74) (k := 29) (ok_aload_n dX12_feed_73 (.head _) rfl (.head _)) ci_12 (by decide) kf_X12_93 dX12_feed_74 (.head _) rfl rfl) (okE2 (p1 := 81) (p2 := 83) (τa := 0) (τb := 0) (okF (p1 := 78) (k := 30) (ok_aload_n dX12_feed_77 (.head _) rfl (.head _)) ci_12 (by decide) kf_X12_146 dX12_feed_78 (.head _) rfl rfl) (ok_iload dX12_feed_81 (.head _) (.tail _ (.tail _ (.tail _ (.tail _ (.tail _ (.tail _ (.head _))))))) t_0) (s_iadd dX12_feed_83 (.head _))) (okI (τ := 4) (okE1 (p1 := 97) (τa := 0) (okE2 (p1 := 86) (p2 := 96) (τa := 0) (τb := 0) (ok_iload dX12_feed_84 (.head _) (.tail _ (.tail _ (.tail _ (.tail _ (.tail _ (.tail _ (.tail _ (.head _)))))))) t_0) (okE2 (p1 := 88) (p2 := 95) (τa := 0) (τb := 0) (ok_bipush dX12_feed_86 (.head _) (irn4 (by decide) (by decide))) (okE2 (p1 := 90) (p2 := 94) (τa := 0) (τb := 0) (ok_bipush dX12_feed_88 (.head _) (irn4 (by decide) (by decide))) (okE2 (p1 := 92) (p2 := 93) (τa := 0) (τb := 0) (ok_iload dX12_feed_90 (.head _) (.tail _ (.tail _ (.tail _ (.tail _ (.tail _ (.tail _ (.head _))))))) t_0) (ok_iconst dX12_feed_92 (.head _) (irn (by decide) (by decide))) (s_iand dX12_feed_93 (.head _))) (s_imul dX12_feed_94 (.head _))) (s_isub dX12_feed_95 (.head _))) (s_ishr dX12_feed_96 (.head _))) (s_i2b dX12_feed_97 (.head _))) t_4) dX12_feed_98 (.head _))) (by decide))
set_option maxRecDepth 100000 in
theorem ocX12_feed_1 : OkC YX12_feed [(0, 2), (1, 0), (2, 0), (3, 0), (4, 0), (5, 0), (6, 0)] 0 18 [25] [105] cX12_feed_1 := by
  unfold cX12_feed_1
  exact (okCBf (p1 := 20) (p2 := 22) (τa := 0) (τb := 0) (ok_iload dX12_feed_18 (.head _) (.tail _ (.tail _ (.tail _ (.tail _ (.tail _ (.tail _ (.head _))))))) t_0) (ok_bipush dX12_feed_20 (.head _) (irn4 (by decide) (by decide))) (j_icmp_ge dX12_feed_22 rfl) nq_lt (.head _) (.head _))
set_option maxRecDepth 100000 in
theorem ouX12_feed_1 : ∀ t ∈ ([99] : List Nat), OkS YX12_feed [(0, 2), (1, 0), (2, 0), (3, 0), (4, 0), (5, 0), (6, 0)] [(0, 2), (1, 0), (2, 0), (3, 0), (4, 0), (5, 0), (6, 0)] t [18] [] [] [] [] uX12_feed_1 := by
  unfold uX12_feed_1
  exact (one (okEnd (p1 := 102) (tg := 18) (okInc (.tail _ (.tail _ (.tail _ (.tail _ (.tail _ (.tail _ (.head _))))))) dX12_feed_99 (by decide) (.head _) (by decide)) dX12_feed_102 rfl (.head _)))
def sX12_feed : QT :=
 (sSeq (sIf (cB qgt (e2 iA (eF 12 30 (eV 0)) (eI 20)) (eI 1000)) (sRet (eI (-1))) sSkip)
 (sSeq (sSeq (sSet 6 (eI 0))
 (sWhile cX12_feed_1 bX12_feed_1 uX12_feed_1))
 (sSeq (sPutC 12 30 (eV 0) iA (eI 20))
 (sRet (eF 12 30 (eV 0))))))
set_option maxRecDepth 100000 in
theorem oX12_feed : OkS YX12_feed [(0, 2), (1, 0), (2, 0), (3, 0), (4, 0), (5, 0)] [(0, 2), (1, 0), (2, 0), (3, 0), (4, 0), (5, 0)] 0 [] [] [] [] [] sX12_feed := by
  unfold sX12_feed
  exact (okSeq (p1 := 15) (Γ1 := [(0, 2), (1, 0), (2, 0), (3, 0), (4, 0), (5, 0)]) (okIf (Γ' := [(0, 2), (1, 0), (2, 0), (3, 0), (4, 0), (5, 0)]) (T := [13]) (F := [15]) (okCBf (p1 := 7) (p2 := 10) (τa := 0) (τb := 0) (okE2 (p1 := 4) (p2 := 6) (τa := 0) (τb := 0) (okF (p1 := 1) (k := 30) (ok_aload_n dX12_feed_0 (.head _) rfl (.head _)) ci_12 (by decide) kf_X12_146 dX12_feed_1 (.head _) rfl rfl) (ok_bipush dX12_feed_4 (.head _) (irn4 (by decide) (by decide))) (s_iadd dX12_feed_6 (.head _))) (ok_sipush dX12_feed_7 (.head _) ⟨by decide, by decide⟩) (j_icmp_le dX12_feed_10 rfl) nq_gt (.head _) (.head _)) (one (okRet (p1 := 14) (τ := 0) (ok_iconst dX12_feed_13 (.head _) (irn (by decide) (by decide))) rfl (by decide) dX12_feed_14)) (fun t ht => okSkip ht))
 (okSeq (p1 := 105) (Γ1 := [(0, 2), (1, 0), (2, 0), (3, 0), (4, 0), (5, 0)]) (okWeak (Γ1 := [(0, 2), (1, 0), (2, 0), (3, 0), (4, 0), (5, 0), (6, 0)]) (okSeq (p1 := 18) (Γ1 := [(0, 2), (1, 0), (2, 0), (3, 0), (4, 0), (5, 0), (6, 0)]) (ok_istore (Γ' := [(0, 2), (1, 0), (2, 0), (3, 0), (4, 0), (5, 0), (6, 0)]) (p1 := 16) (τ := 0) (ok_iconst dX12_feed_15 (.head _) (irn (by decide) (by decide))) t_0 dX12_feed_16 (by decide) (.head _) (by decide))
 (okWhile (T := [25]) (F := [105]) (Eb := [99]) ocX12_feed_1 (fun _ h => h) (one obX12_feed_1) ouX12_feed_1)) (by decide))
 (okSeq (p1 := 116) (Γ1 := [(0, 2), (1, 0), (2, 0), (3, 0), (4, 0), (5, 0)]) (okPutC (p1 := 106) (p2 := 112) (p3 := 113) (k := 30) (τ := 0) (τb := 0) (ok_aload_n dX12_feed_105 (.head _) rfl (.head _)) dX12_feed_106 dX12_feed_107 (ok_bipush dX12_feed_110 (.head _) (irn4 (by decide) (by decide))) (s_iadd dX12_feed_112 (.head _)) rfl ci_12 (by decide) kf_X12_146 rfl (fun z _ => qfit_int z) dX12_feed_113 (.head _) rfl)
 (okRet (p1 := 120) (τ := 0) (okF (p1 := 117) (k := 30) (ok_aload_n dX12_feed_116 (.head _) rfl (.head _)) ci_12 (by decide) kf_X12_146 dX12_feed_117 (.head _) rfl rfl) rfl (by decide) dX12_feed_120))))
def mX12_feed : QM := qM [2, 0, 0, 0, 0, 0] sX12_feed
theorem MX12_feed : MetY YX12_feed yX12_feed (some .int) [2, 0, 0, 0, 0, 0] mX12_feed := metY_of rfl (by decide +kernel) (.inl ⟨rfl, rfl⟩) (by decide) oX12_feed

abbrev YX12_end : YT := (RX12, cX12_end, 2, 0, 0, 0)
theorem cf_X12_end : CF yX12_end 1 := ⟨by decide +kernel, by decide +kernel, by decide +kernel⟩
def sX12_end : QT :=
 (sSeq (sIf (cOr (cB qlt (eV 1) (eI 0)) (cB qgt (eV 1) (eF 12 30 (eV 0)))) (sRet (eI (-1))) sSkip)
 (sSeq (sPut 12 30 (eV 0) (eV 1))
 (sRet (eV 1))))
set_option maxRecDepth 100000 in
theorem oX12_end : OkS YX12_end [(0, 2), (1, 0)] [(0, 2), (1, 0)] 0 [] [] [] [] [] sX12_end := by
  unfold sX12_end
  exact (okSeq (p1 := 14) (Γ1 := [(0, 2), (1, 0)]) (okIf (Γ' := [(0, 2), (1, 0)]) (T := [12]) (F := [14]) (okOr (p1 := 4) (okCZt (p1 := 1) (τa := 0) (ok_iload_n dX12_end_0 (.head _) rfl (.tail _ (.head _)) t_0) (j_if_lt dX12_end_1 rfl) (.head _) (.head _)) (okCBf (p1 := 5) (p2 := 9) (τa := 0) (τb := 0) (ok_iload_n dX12_end_4 (.head _) rfl (.tail _ (.head _)) t_0) (okF (p1 := 6) (k := 30) (ok_aload_n dX12_end_5 (.head _) rfl (.head _)) ci_12 (by decide) kf_X12_146 dX12_end_6 (.head _) rfl rfl) (j_icmp_le dX12_end_9 rfl) nq_gt (.head _) (.head _))) (one (okRet (p1 := 13) (τ := 0) (ok_iconst dX12_end_12 (.head _) (irn (by decide) (by decide))) rfl (by decide) dX12_end_13)) (fun t ht => okSkip ht))
 (okSeq (p1 := 19) (Γ1 := [(0, 2), (1, 0)]) (okPut (p1 := 15) (p2 := 16) (k := 30) (ok_aload_n dX12_end_14 (.head _) rfl (.head _)) (ok_iload_n dX12_end_15 (.head _) rfl (.tail _ (.head _)) t_0) rfl ci_12 (by decide) kf_X12_146 rfl (fun z _ => qfit_int z) dX12_end_16 (.head _) rfl)
 (okRet (p1 := 20) (τ := 0) (ok_iload_n dX12_end_19 (.head _) rfl (.tail _ (.head _)) t_0) rfl (by decide) dX12_end_20)))
def mX12_end : QM := qM [2, 0] sX12_end
theorem MX12_end : MetY YX12_end yX12_end (some .int) [2, 0] mX12_end := metY_of rfl (by decide +kernel) (.inl ⟨rfl, rfl⟩) (by decide) oX12_end

abbrev YX12_signAt : YT := (RX12, cX12_signAt, 2, 0, 0, 0)
theorem cf_X12_signAt : CF yX12_signAt 1 := ⟨by decide +kernel, by decide +kernel, by decide +kernel⟩
def sX12_signAt : QT :=
 (sRet (eIf (cB qlt (eV 1) (eF 12 31 (eV 0))) (eA 42 (eF 12 29 (eV 0)) (eV 1)) (eI 0)))
set_option maxRecDepth 100000 in
theorem oX12_signAt : OkS YX12_signAt [(0, 2), (1, 0)] [(0, 2), (1, 0)] 0 [] [] [] [] [] sX12_signAt := by
  unfold sX12_signAt
  exact (okRet (p1 := 18) (τ := 0) (okIfE (pt := 8) (pf := 17) (p1 := 14) (pe := 18) (okCBf (p1 := 1) (p2 := 5) (τa := 0) (τb := 0) (ok_iload_n dX12_signAt_0 (.head _) rfl (.tail _ (.head _)) t_0) (okF (p1 := 2) (k := 31) (ok_aload_n dX12_signAt_1 (.head _) rfl (.head _)) ci_12 (by decide) kf_X12_149 dX12_signAt_2 (.head _) rfl rfl) (j_icmp_ge dX12_signAt_5 rfl) nq_lt (.head _) (.head _)) (okI (τ := 4) (ok_baload (p1 := 12) (p2 := 13) (okF (p1 := 9) (k := 29) (ok_aload_n dX12_signAt_8 (.head _) rfl (.head _)) ci_12 (by decide) kf_X12_93 dX12_signAt_9 (.head _) rfl rfl) (ok_iload_n dX12_signAt_12 (.head _) rfl (.tail _ (.head _)) t_0) dX12_signAt_13 (.head _)) t_4) dX12_signAt_14 rfl (.head _) (ok_iconst dX12_signAt_17 (.head _) (irn (by decide) (by decide)))) rfl (by decide) dX12_signAt_18)
def mX12_signAt : QM := qM [2, 0] sX12_signAt
theorem MX12_signAt : MetY YX12_signAt yX12_signAt (some .int) [2, 0] mX12_signAt := metY_of rfl (by decide +kernel) (.inl ⟨rfl, rfl⟩) (by decide) oX12_signAt

abbrev YX12_isLetter : YT := (RX12, cX12_isLetter, 1, 0, 0, 3)
theorem cf_X12_isLetter : CF yX12_isLetter 1 := ⟨by decide +kernel, by decide +kernel, by decide +kernel⟩
def sX12_isLetter : QT :=
 (sRet (eB (cAnd (cB qge (eV 0) (eI 97)) (cB qle (eV 0) (eI 122)))))
set_option maxRecDepth 100000 in
theorem oX12_isLetter : OkS YX12_isLetter [(0, 0)] [(0, 0)] 0 [] [] [] [] [] sX12_isLetter := by
  unfold sX12_isLetter
  exact (okRet (p1 := 17) (τ := 3) (okBv (pt := 12) (pf := 16) (pe := 17) (okAnd (p1 := 6) (okCBf (p1 := 1) (p2 := 3) (τa := 0) (τb := 0) (ok_iload_n dX12_isLetter_0 (.head _) rfl (.head _) t_0) (ok_bipush dX12_isLetter_1 (.head _) (irn4 (by decide) (by decide))) (j_icmp_lt dX12_isLetter_3 rfl) nq_ge (.head _) (.head _)) (okCBf (p1 := 7) (p2 := 9) (τa := 0) (τb := 0) (ok_iload_n dX12_isLetter_6 (.head _) rfl (.head _) t_0) (ok_bipush dX12_isLetter_7 (.head _) (irn4 (by decide) (by decide))) (j_icmp_gt dX12_isLetter_9 rfl) nq_le (.head _) (.head _))) dX12_isLetter_12 dX12_isLetter_13 rfl dX12_isLetter_16 (.head _) (.head _)) rfl (by decide) dX12_isLetter_17)
def mX12_isLetter : QM := qM [0] sX12_isLetter
theorem MX12_isLetter : MetY YX12_isLetter yX12_isLetter (some .boolean) [0] mX12_isLetter := metY_of rfl (by decide +kernel) (.inr (.inl ⟨rfl, rfl⟩)) (by decide) oX12_isLetter

abbrev YX12_isDigit : YT := (RX12, cX12_isDigit, 1, 0, 0, 3)
theorem cf_X12_isDigit : CF yX12_isDigit 1 := ⟨by decide +kernel, by decide +kernel, by decide +kernel⟩
def sX12_isDigit : QT :=
 (sRet (eB (cAnd (cB qge (eV 0) (eI 48)) (cB qle (eV 0) (eI 57)))))
set_option maxRecDepth 100000 in
theorem oX12_isDigit : OkS YX12_isDigit [(0, 0)] [(0, 0)] 0 [] [] [] [] [] sX12_isDigit := by
  unfold sX12_isDigit
  exact (okRet (p1 := 17) (τ := 3) (okBv (pt := 12) (pf := 16) (pe := 17) (okAnd (p1 := 6) (okCBf (p1 := 1) (p2 := 3) (τa := 0) (τb := 0) (ok_iload_n dX12_isDigit_0 (.head _) rfl (.head _) t_0) (ok_bipush dX12_isDigit_1 (.head _) (irn4 (by decide) (by decide))) (j_icmp_lt dX12_isDigit_3 rfl) nq_ge (.head _) (.head _)) (okCBf (p1 := 7) (p2 := 9) (τa := 0) (τb := 0) (ok_iload_n dX12_isDigit_6 (.head _) rfl (.head _) t_0) (ok_bipush dX12_isDigit_7 (.head _) (irn4 (by decide) (by decide))) (j_icmp_gt dX12_isDigit_9 rfl) nq_le (.head _) (.head _))) dX12_isDigit_12 dX12_isDigit_13 rfl dX12_isDigit_16 (.head _) (.head _)) rfl (by decide) dX12_isDigit_17)
def mX12_isDigit : QM := qM [0] sX12_isDigit
theorem MX12_isDigit : MetY YX12_isDigit yX12_isDigit (some .boolean) [0] mX12_isDigit := metY_of rfl (by decide +kernel) (.inr (.inl ⟨rfl, rfl⟩)) (by decide) oX12_isDigit

abbrev YX12_isSign : YT := (RX12, cX12_isSign, 1, 0, 0, 3)
theorem cf_X12_isSign : CF yX12_isSign 1 := ⟨by decide +kernel, by decide +kernel, by decide +kernel⟩
def sX12_isSign : QT :=
 (sRet (eB (cOr (cOr (cOr (cOr (cOr (cOr (cOr (cB qeq (eV 0) (eI 59)) (cB qeq (eV 0) (eI 61))) (cB qeq (eV 0) (eI 40))) (cB qeq (eV 0) (eI 41))) (cB qeq (eV 0) (eI 43))) (cB qeq (eV 0) (eI 45))) (cB qeq (eV 0) (eI 42))) (cB qeq (eV 0) (eI 47)))))
set_option maxRecDepth 100000 in
theorem oX12_isSign : OkS YX12_isSign [(0, 0)] [(0, 0)] 0 [] [] [] [] [] sX12_isSign := by
  unfold sX12_isSign
  exact (okRet (p1 := 53) (τ := 3) (okBv (pt := 48) (pf := 52) (pe := 53) (okOr (p1 := 42) (okOr (p1 := 36) (okOr (p1 := 30) (okOr (p1 := 24) (okOr (p1 := 18) (okOr (p1 := 12) (okOr (p1 := 6) (okCBt (p1 := 1) (p2 := 3) (τa := 0) (τb := 0) (ok_iload_n dX12_isSign_0 (.head _) rfl (.head _) t_0) (ok_bipush dX12_isSign_1 (.head _) (irn4 (by decide) (by decide))) (j_icmp_eq dX12_isSign_3 rfl) (.head _) (.head _)) (okCBt (p1 := 7) (p2 := 9) (τa := 0) (τb := 0) (ok_iload_n dX12_isSign_6 (.head _) rfl (.head _) t_0) (ok_bipush dX12_isSign_7 (.head _) (irn4 (by decide) (by decide))) (j_icmp_eq dX12_isSign_9 rfl) (.head _) (.head _))) (okCBt (p1 := 13) (p2 := 15) (τa := 0) (τb := 0) (ok_iload_n dX12_isSign_12 (.head _) rfl (.head _) t_0) (ok_bipush dX12_isSign_13 (.head _) (irn4 (by decide) (by decide))) (j_icmp_eq dX12_isSign_15 rfl) (.head _) (.head _))) (okCBt (p1 := 19) (p2 := 21) (τa := 0) (τb := 0) (ok_iload_n dX12_isSign_18 (.head _) rfl (.head _) t_0) (ok_bipush dX12_isSign_19 (.head _) (irn4 (by decide) (by decide))) (j_icmp_eq dX12_isSign_21 rfl) (.head _) (.head _))) (okCBt (p1 := 25) (p2 := 27) (τa := 0) (τb := 0) (ok_iload_n dX12_isSign_24 (.head _) rfl (.head _) t_0) (ok_bipush dX12_isSign_25 (.head _) (irn4 (by decide) (by decide))) (j_icmp_eq dX12_isSign_27 rfl) (.head _) (.head _))) (okCBt (p1 := 31) (p2 := 33) (τa := 0) (τb := 0) (ok_iload_n dX12_isSign_30 (.head _) rfl (.head _) t_0) (ok_bipush dX12_isSign_31 (.head _) (irn4 (by decide) (by decide))) (j_icmp_eq dX12_isSign_33 rfl) (.head _) (.head _))) (okCBt (p1 := 37) (p2 := 39) (τa := 0) (τb := 0) (ok_iload_n dX12_isSign_36 (.head _) rfl (.head _) t_0) (ok_bipush dX12_isSign_37 (.head _) (irn4 (by decide) (by decide))) (j_icmp_eq dX12_isSign_39 rfl) (.head _) (.head _))) (okCBf (p1 := 43) (p2 := 45) (τa := 0) (τb := 0) (ok_iload_n dX12_isSign_42 (.head _) rfl (.head _) t_0) (ok_bipush dX12_isSign_43 (.head _) (irn4 (by decide) (by decide))) (j_icmp_ne dX12_isSign_45 rfl) nq_eq (.head _) (.head _))) dX12_isSign_48 dX12_isSign_49 rfl dX12_isSign_52 (.head _) (.head _)) rfl (by decide) dX12_isSign_53)
def mX12_isSign : QM := qM [0] sX12_isSign
theorem MX12_isSign : MetY YX12_isSign yX12_isSign (some .boolean) [0] mX12_isSign := metY_of rfl (by decide +kernel) (.inr (.inl ⟨rfl, rfl⟩)) (by decide) oX12_isSign

abbrev YX12_isBlank : YT := (RX12, cX12_isBlank, 2, 0, 0, 3)
theorem cf_X12_isBlank : CF yX12_isBlank 1 := ⟨by decide +kernel, by decide +kernel, by decide +kernel⟩
def sX12_isBlank : QT :=
 (sRet (eB (cAnd (cB qlt (eV 1) (eF 12 31 (eV 0))) (cOr (cB qeq (eA 42 (eF 12 29 (eV 0)) (eV 1)) (eI 32)) (cB qeq (eA 42 (eF 12 29 (eV 0)) (eV 1)) (eI 10))))))
set_option maxRecDepth 100000 in
theorem oX12_isBlank : OkS YX12_isBlank [(0, 2), (1, 0)] [(0, 2), (1, 0)] 0 [] [] [] [] [] sX12_isBlank := by
  unfold sX12_isBlank
  exact (okRet (p1 := 35) (τ := 3) (okBv (pt := 30) (pf := 34) (pe := 35) (okAnd (p1 := 8) (okCBf (p1 := 1) (p2 := 5) (τa := 0) (τb := 0) (ok_iload_n dX12_isBlank_0 (.head _) rfl (.tail _ (.head _)) t_0) (okF (p1 := 2) (k := 31) (ok_aload_n dX12_isBlank_1 (.head _) rfl (.head _)) ci_12 (by decide) kf_X12_149 dX12_isBlank_2 (.head _) rfl rfl) (j_icmp_ge dX12_isBlank_5 rfl) nq_lt (.head _) (.head _)) (okOr (p1 := 19) (okCBt (p1 := 14) (p2 := 16) (τa := 0) (τb := 0) (okI (τ := 4) (ok_baload (p1 := 12) (p2 := 13) (okF (p1 := 9) (k := 29) (ok_aload_n dX12_isBlank_8 (.head _) rfl (.head _)) ci_12 (by decide) kf_X12_93 dX12_isBlank_9 (.head _) rfl rfl) (ok_iload_n dX12_isBlank_12 (.head _) rfl (.tail _ (.head _)) t_0) dX12_isBlank_13 (.head _)) t_4) (ok_bipush dX12_isBlank_14 (.head _) (irn4 (by decide) (by decide))) (j_icmp_eq dX12_isBlank_16 rfl) (.head _) (.head _)) (okCBf (p1 := 25) (p2 := 27) (τa := 0) (τb := 0) (okI (τ := 4) (ok_baload (p1 := 23) (p2 := 24) (okF (p1 := 20) (k := 29) (ok_aload_n dX12_isBlank_19 (.head _) rfl (.head _)) ci_12 (by decide) kf_X12_93 dX12_isBlank_20 (.head _) rfl rfl) (ok_iload_n dX12_isBlank_23 (.head _) rfl (.tail _ (.head _)) t_0) dX12_isBlank_24 (.head _)) t_4) (ok_bipush dX12_isBlank_25 (.head _) (irn4 (by decide) (by decide))) (j_icmp_ne dX12_isBlank_27 rfl) nq_eq (.head _) (.head _)))) dX12_isBlank_30 dX12_isBlank_31 rfl dX12_isBlank_34 (.head _) (.head _)) rfl (by decide) dX12_isBlank_35)
def mX12_isBlank : QM := qM [2, 0] sX12_isBlank
theorem MX12_isBlank : MetY YX12_isBlank yX12_isBlank (some .boolean) [2, 0] mX12_isBlank := metY_of rfl (by decide +kernel) (.inr (.inl ⟨rfl, rfl⟩)) (by decide) oX12_isBlank

abbrev YX12_scanNumber : YT := (RX12, cX12_scanNumber, 1, 1, 21, 9)
theorem cf_X12_scanNumber : CF yX12_scanNumber 0 := ⟨by decide +kernel, by decide +kernel, by decide +kernel⟩
def cX12_scanNumber_1 : QC :=
 (cE (eCall mX12_isDigit [(eCallV 12 mX12_signAt [(eV 0), (eF 12 32 (eV 0))])]))
def bX12_scanNumber_1 : QT :=
 (sSeq (sPut 12 35 (eV 0) (eIf (cB qgt (eF 12 35 (eV 0)) (eI 999999)) (eF 12 35 (eV 0)) (e2 iS (e2 iA (e2 iM (eI 10) (eF 12 35 (eV 0))) (eCallV 12 mX12_signAt [(eV 0), (eF 12 32 (eV 0))])) (eI 48))))
 (sPutC 12 32 (eV 0) iA (eI 1)))
def uX12_scanNumber_1 : QT :=
 sSkip
set_option maxRecDepth 100000 in
theorem obX12_scanNumber_1 : OkS YX12_scanNumber [(0, 2)] [(0, 2)] 32 [81, 18] [(0, 2)] [84] [(0, 2)] [81, 18] bX12_scanNumber_1 := by
  unfold bX12_scanNumber_1
  exact (okSeq (p1 := 71) (Γ1 := [(0, 2)]) (okPut (p1 := 33) (p2 := 68) (k := 35) (ok_aload_n dX12_scanNumber_32 (.head _) rfl (.head _)) (okIfE (pt := 42) (pf := 49) (p1 := 46) (pe := 68) (okCBf (p1 := 37) (p2 := 39) (τa := 0) (τb := 0) (okF (p1 := 34) (k := 35) (ok_aload_n dX12_scanNumber_33 (.head _) rfl (.head _)) ci_12 (by decide) kf_X12_191 dX12_scanNumber_34 (.head _) rfl rfl) (ok_ldc kk_X12_194 (by decide) dX12_scanNumber_37 (.head _)) (j_icmp_le dX12_scanNumber_39 rfl) nq_gt (.head _) (.head _)) (okF (p1 := 43) (k := 35) (ok_aload_n dX12_scanNumber_42 (.head _) rfl (.head _)) ci_12 (by decide) kf_X12_191 dX12_scanNumber_43 (.head _) rfl rfl) dX12_scanNumber_46 rfl (.head _) (okE2 (p1 := 65) (p2 := 67) (τa := 0) (τb := 0) (okE2 (p1 := 56) (p2 := 64) (τa := 0) (τb := 0) (okE2 (p1 := 51) (p2 := 55) (τa := 0) (τb := 0) (ok_bipush dX12_scanNumber_49 (.head _) (irn4 (by decide) (by decide))) (okF (p1 := 52) (k := 35) (ok_aload_n dX12_scanNumber_51 (.head _) rfl (.head _)) ci_12 (by decide) kf_X12_191 dX12_scanNumber_52 (.head _) rfl rfl) (s_imul dX12_scanNumber_55 (.head _))) (okCallV (p1 := 61) (okCons (p1 := 57) (ok_aload_n dX12_scanNumber_56 (.head _) rfl (.head _)) (okCons (p1 := 61) (okF (p1 := 58) (k := 32) (ok_aload_n dX12_scanNumber_57 (.head _) rfl (.head _)) ci_12 (by decide) kf_X12_152 dX12_scanNumber_58 (.head _) rfl rfl) okNil)) MX12_signAt cf_X12_signAt ci_12 rfl kc_X12_signAt km_X12_162 ki_X12_signAt kv_X12_signAt kn_X12 (Nat.le_of_ble_eq_true rfl) (Nat.le_of_ble_eq_true rfl) dX12_scanNumber_61 (.head _) (by decide) rfl (by decide)) (s_iadd dX12_scanNumber_64 (.head _))) (ok_bipush dX12_scanNumber_65 (.head _) (irn4 (by decide) (by decide))) (s_isub dX12_scanNumber_67 (.head _)))) rfl ci_12 (by decide) kf_X12_191 rfl (fun z _ => qfit_int z) dX12_scanNumber_68 (.head _) rfl)
 (okPutC (p1 := 72) (p2 := 77) (p3 := 78) (k := 32) (τ := 0) (τb := 0) (ok_aload_n dX12_scanNumber_71 (.head _) rfl (.head _)) dX12_scanNumber_72 dX12_scanNumber_73 (ok_iconst dX12_scanNumber_76 (.head _) (irn (by decide) (by decide))) (s_iadd dX12_scanNumber_77 (.head _)) rfl ci_12 (by decide) kf_X12_152 rfl (fun z _ => qfit_int z) dX12_scanNumber_78 (.head _) rfl))
set_option maxRecDepth 100000 in
theorem ocX12_scanNumber_1 : OkC YX12_scanNumber [(0, 2)] 0 18 [32] [84] cX12_scanNumber_1 := by
  unfold cX12_scanNumber_1
  exact (okCEf (p1 := 29) (okI (τ := 3) (okCallS (p1 := 26) (okCons (p1 := 26) (okCallV (p1 := 23) (okCons (p1 := 19) (ok_aload_n dX12_scanNumber_18 (.head _) rfl (.head _)) (okCons (p1 := 23) (okF (p1 := 20) (k := 32) (ok_aload_n dX12_scanNumber_19 (.head _) rfl (.head _)) ci_12 (by decide) kf_X12_152 dX12_scanNumber_20 (.head _) rfl rfl) okNil)) MX12_signAt cf_X12_signAt ci_12 rfl kc_X12_signAt km_X12_162 ki_X12_signAt kv_X12_signAt kn_X12 (Nat.le_of_ble_eq_true rfl) (Nat.le_of_ble_eq_true rfl) dX12_scanNumber_23 (.head _) (by decide) rfl (by decide)) okNil) MX12_isDigit cf_X12_isDigit rfl kc_X12_isDigit km_X12_175 ks_X12_isDigit kn_X12 (Nat.le_of_ble_eq_true rfl) (Nat.le_of_ble_eq_true rfl) dX12_scanNumber_26 (.head _) (by decide) rfl (by decide)) t_3) (j_if_eq dX12_scanNumber_29 rfl) (.head _) (.head _))
set_option maxRecDepth 100000 in
theorem ouX12_scanNumber_1 : ∀ t ∈ ([81, 18] : List Nat), OkS YX12_scanNumber [(0, 2)] [(0, 2)] t [18] [] [] [] [] uX12_scanNumber_1 := by
  unfold uX12_scanNumber_1
  exact (List.forall_mem_cons.mpr ⟨okGo dX12_scanNumber_81 (tg := 18) rfl (okSkip (.head _)), one (okSkip (.head _))⟩)
def sX12_scanNumber : QT :=
 (sSeq (sPut 12 34 (eV 0) (eI 3))
 (sSeq (sPut 12 35 (eV 0) (eI 0))
 (sSeq (sPut 12 32 (eV 0) (eF 12 33 (eV 0)))
 (sSeq (sWhile cX12_scanNumber_1 bX12_scanNumber_1 uX12_scanNumber_1)
 sRetV))))
set_option maxRecDepth 100000 in
theorem oX12_scanNumber : OkS YX12_scanNumber [(0, 2)] [(0, 2)] 0 [] [] [] [] [] sX12_scanNumber := by
  unfold sX12_scanNumber
  exact (okSeq (p1 := 5) (Γ1 := [(0, 2)]) (okPut (p1 := 1) (p2 := 2) (k := 34) (ok_aload_n dX12_scanNumber_0 (.head _) rfl (.head _)) (ok_iconst dX12_scanNumber_1 (.head _) (irn (by decide) (by decide))) rfl ci_12 (by decide) kf_X12_166 rfl (fun z _ => qfit_int z) dX12_scanNumber_2 (.head _) rfl)
 (okSeq (p1 := 10) (Γ1 := [(0, 2)]) (okPut (p1 := 6) (p2 := 7) (k := 35) (ok_aload_n dX12_scanNumber_5 (.head _) rfl (.head _)) (ok_iconst dX12_scanNumber_6 (.head _) (irn (by decide) (by decide))) rfl ci_12 (by decide) kf_X12_191 rfl (fun z _ => qfit_int z) dX12_scanNumber_7 (.head _) rfl)
 (okSeq (p1 := 18) (Γ1 := [(0, 2)]) (okPut (p1 := 11) (p2 := 15) (k := 32) (ok_aload_n dX12_scanNumber_10 (.head _) rfl (.head _)) (okF (p1 := 12) (k := 33) (ok_aload_n dX12_scanNumber_11 (.head _) rfl (.head _)) ci_12 (by decide) kf_X12_155 dX12_scanNumber_12 (.head _) rfl rfl) rfl ci_12 (by decide) kf_X12_152 rfl (fun z _ => qfit_int z) dX12_scanNumber_15 (.head _) rfl)
 (okSeq (p1 := 84) (Γ1 := [(0, 2)]) (okWhile (T := [32]) (F := [84]) (Eb := [81, 18]) ocX12_scanNumber_1 (fun _ h => h) (one obX12_scanNumber_1) ouX12_scanNumber_1)
 (okRetV rfl dX12_scanNumber_84)))))
def mX12_scanNumber : QM := qM [2] sX12_scanNumber
theorem MX12_scanNumber : MetY YX12_scanNumber yX12_scanNumber none [2] mX12_scanNumber := metY_of rfl (by decide +kernel) (.inr (.inr (.inr (.inl ⟨rfl, rfl⟩)))) (by decide) oX12_scanNumber

abbrev YX12_isSame : YT := (RX12, cX12_isSame, 4, 0, 0, 3)
theorem cf_X12_isSame : CF yX12_isSame 2 := ⟨by decide +kernel, by decide +kernel, by decide +kernel⟩
def cX12_isSame_1 : QC :=
 (cB qlt (eV 3) (e2 iS (eV 2) (eV 1)))
def bX12_isSame_1 : QT :=
 (sIf (cB qne (eA 42 (eF 12 41 (eV 0)) (e2 iA (eV 1) (eV 3))) (eA 42 (eF 12 29 (eV 0)) (e2 iA (eF 12 33 (eV 0)) (eV 3)))) (sRet (eI 0)) sSkip)
def uX12_isSame_1 : QT :=
 (sInc 3 1)
set_option maxRecDepth 100000 in
theorem obX12_isSame_1 : OkS YX12_isSame [(0, 2), (1, 0), (2, 0), (3, 0)] [(0, 2), (1, 0), (2, 0), (3, 0)] 26 [50] [(0, 2), (1, 0), (2, 0), (3, 0)] [56] [(0, 2), (1, 0), (2, 0), (3, 0)] [50] bX12_isSame_1 := by
  unfold bX12_isSame_1
  exact (okIf (Γ' := [(0, 2), (1, 0), (2, 0), (3, 0)]) (T := [48]) (F := [50]) (okCBf (p1 := 34) (p2 := 45) (τa := 0) (τb := 0) (okI (τ := 4) (ok_baload (p1 := 30) (p2 := 33) (okF (p1 := 27) (k := 41) (ok_aload_n dX12_isSame_26 (.head _) rfl (.head _)) ci_12 (by decide) kf_X12_101 dX12_isSame_27 (.head _) rfl rfl) (okE2 (p1 := 31) (p2 := 32) (τa := 0) (τb := 0) (ok_iload_n dX12_isSame_30 (.head _) rfl (.tail _ (.head _)) t_0) (ok_iload_n dX12_isSame_31 (.head _) rfl (.tail _ (.tail _ (.tail _ (.head _)))) t_0) (s_iadd dX12_isSame_32 (.head _))) dX12_isSame_33 (.head _)) t_4) (okI (τ := 4) (ok_baload (p1 := 38) (p2 := 44) (okF (p1 := 35) (k := 29) (ok_aload_n dX12_isSame_34 (.head _) rfl (.head _)) ci_12 (by decide) kf_X12_93 dX12_isSame_35 (.head _) rfl rfl) (okE2 (p1 := 42) (p2 := 43) (τa := 0) (τb := 0) (okF (p1 := 39) (k := 33) (ok_aload_n dX12_isSame_38 (.head _) rfl (.head _)) ci_12 (by decide) kf_X12_155 dX12_isSame_39 (.head _) rfl rfl) (ok_iload_n dX12_isSame_42 (.head _) rfl (.tail _ (.tail _ (.tail _ (.head _)))) t_0) (s_iadd dX12_isSame_43 (.head _))) dX12_isSame_44 (.head _)) t_4) (j_icmp_eq dX12_isSame_45 rfl) nq_ne (.head _) (.head _)) (one (okRet (p1 := 49) (τ := 3) (ok_zconst dX12_isSame_48 (.head _) ⟨by decide, by decide⟩) rfl (by decide) dX12_isSame_49)) (fun t ht => okSkip ht))
set_option maxRecDepth 100000 in
theorem ocX12_isSame_1 : OkC YX12_isSame [(0, 2), (1, 0), (2, 0), (3, 0)] 0 19 [26] [56] cX12_isSame_1 := by
  unfold cX12_isSame_1
  exact (okCBf (p1 := 20) (p2 := 23) (τa := 0) (τb := 0) (ok_iload_n dX12_isSame_19 (.head _) rfl (.tail _ (.tail _ (.tail _ (.head _)))) t_0) (okE2 (p1 := 21) (p2 := 22) (τa := 0) (τb := 0) (ok_iload_n dX12_isSame_20 (.head _) rfl (.tail _ (.tail _ (.head _))) t_0) (ok_iload_n dX12_isSame_21 (.head _) rfl (.tail _ (.head _)) t_0) (s_isub dX12_isSame_22 (.head _))) (j_icmp_ge dX12_isSame_23 rfl) nq_lt (.head _) (.head _))
set_option maxRecDepth 100000 in
theorem ouX12_isSame_1 : ∀ t ∈ ([50] : List Nat), OkS YX12_isSame [(0, 2), (1, 0), (2, 0), (3, 0)] [(0, 2), (1, 0), (2, 0), (3, 0)] t [19] [] [] [] [] uX12_isSame_1 := by
  unfold uX12_isSame_1
  exact (one (okEnd (p1 := 53) (tg := 19) (okInc (.tail _ (.tail _ (.tail _ (.head _)))) dX12_isSame_50 (by decide) (.head _) (by decide)) dX12_isSame_53 rfl (.head _)))
def sX12_isSame : QT :=
 (sSeq (sIf (cB qne (e2 iS (eV 2) (eV 1)) (e2 iS (eF 12 32 (eV 0)) (eF 12 33 (eV 0)))) (sRet (eI 0)) sSkip)
 (sSeq (sSeq (sSet 3 (eI 0))
 (sWhile cX12_isSame_1 bX12_isSame_1 uX12_isSame_1))
 (sRet (eI 1))))
set_option maxRecDepth 100000 in
theorem oX12_isSame : OkS YX12_isSame [(0, 2), (1, 0), (2, 0)] [(0, 2), (1, 0), (2, 0)] 0 [] [] [] [] [] sX12_isSame := by
  unfold sX12_isSame
  exact (okSeq (p1 := 17) (Γ1 := [(0, 2), (1, 0), (2, 0)]) (okIf (Γ' := [(0, 2), (1, 0), (2, 0)]) (T := [15]) (F := [17]) (okCBf (p1 := 3) (p2 := 12) (τa := 0) (τb := 0) (okE2 (p1 := 1) (p2 := 2) (τa := 0) (τb := 0) (ok_iload_n dX12_isSame_0 (.head _) rfl (.tail _ (.tail _ (.head _))) t_0) (ok_iload_n dX12_isSame_1 (.head _) rfl (.tail _ (.head _)) t_0) (s_isub dX12_isSame_2 (.head _))) (okE2 (p1 := 7) (p2 := 11) (τa := 0) (τb := 0) (okF (p1 := 4) (k := 32) (ok_aload_n dX12_isSame_3 (.head _) rfl (.head _)) ci_12 (by decide) kf_X12_152 dX12_isSame_4 (.head _) rfl rfl) (okF (p1 := 8) (k := 33) (ok_aload_n dX12_isSame_7 (.head _) rfl (.head _)) ci_12 (by decide) kf_X12_155 dX12_isSame_8 (.head _) rfl rfl) (s_isub dX12_isSame_11 (.head _))) (j_icmp_eq dX12_isSame_12 rfl) nq_ne (.head _) (.head _)) (one (okRet (p1 := 16) (τ := 3) (ok_zconst dX12_isSame_15 (.head _) ⟨by decide, by decide⟩) rfl (by decide) dX12_isSame_16)) (fun t ht => okSkip ht))
 (okSeq (p1 := 56) (Γ1 := [(0, 2), (1, 0), (2, 0)]) (okWeak (Γ1 := [(0, 2), (1, 0), (2, 0), (3, 0)]) (okSeq (p1 := 19) (Γ1 := [(0, 2), (1, 0), (2, 0), (3, 0)]) (ok_istore_n (Γ' := [(0, 2), (1, 0), (2, 0), (3, 0)]) (p1 := 18) (τ := 0) (ok_iconst dX12_isSame_17 (.head _) (irn (by decide) (by decide))) t_0 dX12_isSame_18 rfl (by decide) (.head _) (by decide))
 (okWhile (T := [26]) (F := [56]) (Eb := [50]) ocX12_isSame_1 (fun _ h => h) (one obX12_isSame_1) ouX12_isSame_1)) (by decide))
 (okRet (p1 := 57) (τ := 3) (ok_zconst dX12_isSame_56 (.head _) ⟨by decide, by decide⟩) rfl (by decide) dX12_isSame_57)))
def mX12_isSame : QM := qM [2, 0, 0] sX12_isSame
theorem MX12_isSame : MetY YX12_isSame yX12_isSame (some .boolean) [2, 0, 0] mX12_isSame := metY_of rfl (by decide +kernel) (.inr (.inl ⟨rfl, rfl⟩)) (by decide) oX12_isSame

abbrev YX12_scanWord : YT := (RX12, cX12_scanWord, 4, 1, 23, 9)
theorem cf_X12_scanWord : CF yX12_scanWord 0 := ⟨by decide +kernel, by decide +kernel, by decide +kernel⟩
def cX12_scanWord_1 : QC :=
 (cE (eCall mX12_isLetter [(eCallV 12 mX12_signAt [(eV 0), (eF 12 32 (eV 0))])]))
def bX12_scanWord_1 : QT :=
 (sPutC 12 32 (eV 0) iA (eI 1))
def uX12_scanWord_1 : QT :=
 sSkip
set_option maxRecDepth 100000 in
theorem obX12_scanWord_1 : OkS YX12_scanWord [(0, 2)] [(0, 2)] 27 [37, 13] [(0, 2)] [40] [(0, 2)] [37, 13] bX12_scanWord_1 := by
  unfold bX12_scanWord_1
  exact (okPutC (p1 := 28) (p2 := 33) (p3 := 34) (k := 32) (τ := 0) (τb := 0) (ok_aload_n dX12_scanWord_27 (.head _) rfl (.head _)) dX12_scanWord_28 dX12_scanWord_29 (ok_iconst dX12_scanWord_32 (.head _) (irn (by decide) (by decide))) (s_iadd dX12_scanWord_33 (.head _)) rfl ci_12 (by decide) kf_X12_152 rfl (fun z _ => qfit_int z) dX12_scanWord_34 (.head _) rfl)
set_option maxRecDepth 100000 in
theorem ocX12_scanWord_1 : OkC YX12_scanWord [(0, 2)] 0 13 [27] [40] cX12_scanWord_1 := by
  unfold cX12_scanWord_1
  exact (okCEf (p1 := 24) (okI (τ := 3) (okCallS (p1 := 21) (okCons (p1 := 21) (okCallV (p1 := 18) (okCons (p1 := 14) (ok_aload_n dX12_scanWord_13 (.head _) rfl (.head _)) (okCons (p1 := 18) (okF (p1 := 15) (k := 32) (ok_aload_n dX12_scanWord_14 (.head _) rfl (.head _)) ci_12 (by decide) kf_X12_152 dX12_scanWord_15 (.head _) rfl rfl) okNil)) MX12_signAt cf_X12_signAt ci_12 rfl kc_X12_signAt km_X12_162 ki_X12_signAt kv_X12_signAt kn_X12 (Nat.le_of_ble_eq_true rfl) (Nat.le_of_ble_eq_true rfl) dX12_scanWord_18 (.head _) (by decide) rfl (by decide)) okNil) MX12_isLetter cf_X12_isLetter rfl kc_X12_isLetter km_X12_169 ks_X12_isLetter kn_X12 (Nat.le_of_ble_eq_true rfl) (Nat.le_of_ble_eq_true rfl) dX12_scanWord_21 (.head _) (by decide) rfl (by decide)) t_3) (j_if_eq dX12_scanWord_24 rfl) (.head _) (.head _))
set_option maxRecDepth 100000 in
theorem ouX12_scanWord_1 : ∀ t ∈ ([37, 13] : List Nat), OkS YX12_scanWord [(0, 2)] [(0, 2)] t [13] [] [] [] [] uX12_scanWord_1 := by
  unfold uX12_scanWord_1
  exact (List.forall_mem_cons.mpr ⟨okGo dX12_scanWord_37 (tg := 13) rfl (okSkip (.head _)), one (okSkip (.head _))⟩)
def cX12_scanWord_3 : QC :=
 (cB qne (eA 42 (eF 12 41 (eV 0)) (eV 3)) (eI 32))
def bX12_scanWord_3 : QT :=
 (sInc 3 1)
def uX12_scanWord_3 : QT :=
 sSkip
set_option maxRecDepth 100000 in
theorem obX12_scanWord_3 : OkS YX12_scanWord [(0, 2), (1, 0), (2, 0), (3, 0)] [(0, 2), (1, 0), (2, 0), (3, 0)] 68 [71, 57] [(0, 2), (1, 0), (2, 0), (3, 0)] [74] [(0, 2), (1, 0), (2, 0), (3, 0)] [71, 57] bX12_scanWord_3 := by
  unfold bX12_scanWord_3
  exact (okInc (.tail _ (.tail _ (.tail _ (.head _)))) dX12_scanWord_68 (by decide) (.head _) (by decide))
set_option maxRecDepth 100000 in
theorem ocX12_scanWord_3 : OkC YX12_scanWord [(0, 2), (1, 0), (2, 0), (3, 0)] 0 57 [68] [74] cX12_scanWord_3 := by
  unfold cX12_scanWord_3
  exact (okCBf (p1 := 63) (p2 := 65) (τa := 0) (τb := 0) (okI (τ := 4) (ok_baload (p1 := 61) (p2 := 62) (okF (p1 := 58) (k := 41) (ok_aload_n dX12_scanWord_57 (.head _) rfl (.head _)) ci_12 (by decide) kf_X12_101 dX12_scanWord_58 (.head _) rfl rfl) (ok_iload_n dX12_scanWord_61 (.head _) rfl (.tail _ (.tail _ (.tail _ (.head _)))) t_0) dX12_scanWord_62 (.head _)) t_4) (ok_bipush dX12_scanWord_63 (.head _) (irn4 (by decide) (by decide))) (j_icmp_eq dX12_scanWord_65 rfl) nq_ne (.head _) (.head _))
set_option maxRecDepth 100000 in
theorem ouX12_scanWord_3 : ∀ t ∈ ([71, 57] : List Nat), OkS YX12_scanWord [(0, 2), (1, 0), (2, 0), (3, 0)] [(0, 2), (1, 0), (2, 0), (3, 0)] t [57] [] [] [] [] uX12_scanWord_3 := by
  unfold uX12_scanWord_3
  exact (List.forall_mem_cons.mpr ⟨okGo dX12_scanWord_71 (tg := 57) rfl (okSkip (.head _)), one (okSkip (.head _))⟩)
def cX12_scanWord_2 : QC :=
 (cB qlt (eV 2) (eI 18))
def bX12_scanWord_2 : QT :=
 (sSeq (sSet 3 (eV 1))
 (sSeq (sWhile cX12_scanWord_3 bX12_scanWord_3 uX12_scanWord_3)
 (sSeq (sIf (cE (eCallV 12 mX12_isSame [(eV 0), (eV 1), (eV 3)])) (sPut 12 36 (eV 0) (eV 2)) sSkip)
 (sSet 1 (e2 iA (eV 3) (eI 1))))))
def uX12_scanWord_2 : QT :=
 (sInc 2 1)
set_option maxRecDepth 100000 in
theorem obX12_scanWord_2 : OkS YX12_scanWord [(0, 2), (1, 0), (2, 0)] [(0, 2), (1, 0), (2, 0)] 55 [92] [(0, 2), (1, 0), (2, 0)] [98] [(0, 2), (1, 0), (2, 0)] [92] bX12_scanWord_2 := by
  unfold bX12_scanWord_2
  exact (okWeak (Γ1 := [(0, 2), (2, 0), (3, 0), (1, 0)]) (okSeq (p1 := 57) (Γ1 := [(0, 2), (1, 0), (2, 0), (3, 0)]) (ok_istore_n (Γ' := [(0, 2), (1, 0), (2, 0), (3, 0)]) (p1 := 56) (τ := 0) (ok_iload_n dX12_scanWord_55 (.head _) rfl (.tail _ (.head _)) t_0) t_0 dX12_scanWord_56 rfl (by decide) (.head _) (by decide))
 (okSeq (p1 := 74) (Γ1 := [(0, 2), (1, 0), (2, 0), (3, 0)]) (okWhile (T := [68]) (F := [74]) (Eb := [71, 57]) ocX12_scanWord_3 (fun _ h => h) (one obX12_scanWord_3) ouX12_scanWord_3)
 (okSeq (p1 := 88) (Γ1 := [(0, 2), (1, 0), (2, 0), (3, 0)]) (okIf (Γ' := [(0, 2), (1, 0), (2, 0), (3, 0)]) (T := [83]) (F := [88]) (okCEf (p1 := 80) (okI (τ := 3) (okCallV (p1 := 77) (okCons (p1 := 75) (ok_aload_n dX12_scanWord_74 (.head _) rfl (.head _)) (okCons (p1 := 76) (ok_iload_n dX12_scanWord_75 (.head _) rfl (.tail _ (.head _)) t_0) (okCons (p1 := 77) (ok_iload_n dX12_scanWord_76 (.head _) rfl (.tail _ (.tail _ (.tail _ (.head _)))) t_0) okNil))) MX12_isSame cf_X12_isSame ci_12 rfl kc_X12_isSame km_X12_187 ki_X12_isSame kv_X12_isSame kn_X12 (Nat.le_of_ble_eq_true rfl) (Nat.le_of_ble_eq_true rfl) dX12_scanWord_77 (.head _) (by decide) rfl (by decide)) t_3) (j_if_eq dX12_scanWord_80 rfl) (.head _) (.head _)) (one (okPut (p1 := 84) (p2 := 85) (k := 36) (ok_aload_n dX12_scanWord_83 (.head _) rfl (.head _)) (ok_iload_n dX12_scanWord_84 (.head _) rfl (.tail _ (.tail _ (.head _))) t_0) rfl ci_12 (by decide) kf_X12_184 rfl (fun z _ => qfit_int z) dX12_scanWord_85 (.head _) rfl)) (fun t ht => okSkip ht))
 (ok_istore_n (Γ' := [(0, 2), (2, 0), (3, 0), (1, 0)]) (p1 := 91) (τ := 0) (okE2 (p1 := 89) (p2 := 90) (τa := 0) (τb := 0) (ok_iload_n dX12_scanWord_88 (.head _) rfl (.tail _ (.tail _ (.tail _ (.head _)))) t_0) (ok_iconst dX12_scanWord_89 (.head _) (irn (by decide) (by decide))) (s_iadd dX12_scanWord_90 (.head _))) t_0 dX12_scanWord_91 rfl (by decide) (.head _) (by decide))))) (by decide))
set_option maxRecDepth 100000 in
theorem ocX12_scanWord_2 : OkC YX12_scanWord [(0, 2), (1, 0), (2, 0)] 0 49 [55] [98] cX12_scanWord_2 := by
  unfold cX12_scanWord_2
  exact (okCBf (p1 := 50) (p2 := 52) (τa := 0) (τb := 0) (ok_iload_n dX12_scanWord_49 (.head _) rfl (.tail _ (.tail _ (.head _))) t_0) (ok_bipush dX12_scanWord_50 (.head _) (irn4 (by decide) (by decide))) (j_icmp_ge dX12_scanWord_52 rfl) nq_lt (.head _) (.head _))
set_option maxRecDepth 100000 in
theorem ouX12_scanWord_2 : ∀ t ∈ ([92] : List Nat), OkS YX12_scanWord [(0, 2), (1, 0), (2, 0)] [(0, 2), (1, 0), (2, 0)] t [49] [] [] [] [] uX12_scanWord_2 := by
  unfold uX12_scanWord_2
  exact (one (okEnd (p1 := 95) (tg := 49) (okInc (.tail _ (.tail _ (.head _))) dX12_scanWord_92 (by decide) (.head _) (by decide)) dX12_scanWord_95 rfl (.head _)))
def sX12_scanWord : QT :=
 (sSeq (sPut 12 34 (eV 0) (eI 2))
 (sSeq (sPut 12 32 (eV 0) (eF 12 33 (eV 0)))
 (sSeq (sWhile cX12_scanWord_1 bX12_scanWord_1 uX12_scanWord_1)
 (sSeq (sPut 12 36 (eV 0) (eI (-1)))
 (sSeq (sSet 1 (eI 0))
 (sSeq (sSeq (sSet 2 (eI 0))
 (sWhile cX12_scanWord_2 bX12_scanWord_2 uX12_scanWord_2))
 sRetV))))))
set_option maxRecDepth 100000 in
theorem oX12_scanWord : OkS YX12_scanWord [(0, 2)] [(0, 2), (1, 0)] 0 [] [] [] [] [] sX12_scanWord := by
  unfold sX12_scanWord
  exact (okSeq (p1 := 5) (Γ1 := [(0, 2)]) (okPut (p1 := 1) (p2 := 2) (k := 34) (ok_aload_n dX12_scanWord_0 (.head _) rfl (.head _)) (ok_iconst dX12_scanWord_1 (.head _) (irn (by decide) (by decide))) rfl ci_12 (by decide) kf_X12_166 rfl (fun z _ => qfit_int z) dX12_scanWord_2 (.head _) rfl)
 (okSeq (p1 := 13) (Γ1 := [(0, 2)]) (okPut (p1 := 6) (p2 := 10) (k := 32) (ok_aload_n dX12_scanWord_5 (.head _) rfl (.head _)) (okF (p1 := 7) (k := 33) (ok_aload_n dX12_scanWord_6 (.head _) rfl (.head _)) ci_12 (by decide) kf_X12_155 dX12_scanWord_7 (.head _) rfl rfl) rfl ci_12 (by decide) kf_X12_152 rfl (fun z _ => qfit_int z) dX12_scanWord_10 (.head _) rfl)
 (okSeq (p1 := 40) (Γ1 := [(0, 2)]) (okWhile (T := [27]) (F := [40]) (Eb := [37, 13]) ocX12_scanWord_1 (fun _ h => h) (one obX12_scanWord_1) ouX12_scanWord_1)
 (okSeq (p1 := 45) (Γ1 := [(0, 2)]) (okPut (p1 := 41) (p2 := 42) (k := 36) (ok_aload_n dX12_scanWord_40 (.head _) rfl (.head _)) (ok_iconst dX12_scanWord_41 (.head _) (irn (by decide) (by decide))) rfl ci_12 (by decide) kf_X12_184 rfl (fun z _ => qfit_int z) dX12_scanWord_42 (.head _) rfl)
 (okSeq (p1 := 47) (Γ1 := [(0, 2), (1, 0)]) (ok_istore_n (Γ' := [(0, 2), (1, 0)]) (p1 := 46) (τ := 0) (ok_iconst dX12_scanWord_45 (.head _) (irn (by decide) (by decide))) t_0 dX12_scanWord_46 rfl (by decide) (.head _) (by decide))
 (okSeq (p1 := 98) (Γ1 := [(0, 2), (1, 0)]) (okWeak (Γ1 := [(0, 2), (1, 0), (2, 0)]) (okSeq (p1 := 49) (Γ1 := [(0, 2), (1, 0), (2, 0)]) (ok_istore_n (Γ' := [(0, 2), (1, 0), (2, 0)]) (p1 := 48) (τ := 0) (ok_iconst dX12_scanWord_47 (.head _) (irn (by decide) (by decide))) t_0 dX12_scanWord_48 rfl (by decide) (.head _) (by decide))
 (okWhile (T := [55]) (F := [98]) (Eb := [92]) ocX12_scanWord_2 (fun _ h => h) (one obX12_scanWord_2) ouX12_scanWord_2)) (by decide))
 (okRetV rfl dX12_scanWord_98)))))))
def mX12_scanWord : QM := qM [2] sX12_scanWord
theorem MX12_scanWord : MetY YX12_scanWord yX12_scanWord none [2] mX12_scanWord := metY_of rfl (by decide +kernel) (.inr (.inr (.inr (.inl ⟨rfl, rfl⟩)))) (by decide) oX12_scanWord

abbrev YX12_scan : YT := (RX12, cX12_scan, 2, 2, 46, 9)
theorem cf_X12_scan : CF yX12_scan 0 := ⟨by decide +kernel, by decide +kernel, by decide +kernel⟩
def cX12_scan_1 : QC :=
 (cE (eCallV 12 mX12_isBlank [(eV 0), (eF 12 33 (eV 0))]))
def bX12_scan_1 : QT :=
 (sPutC 12 33 (eV 0) iA (eI 1))
def uX12_scan_1 : QT :=
 sSkip
set_option maxRecDepth 100000 in
theorem obX12_scan_1 : OkS YX12_scan [(0, 2)] [(0, 2)] 19 [29, 8] [(0, 2)] [32] [(0, 2)] [29, 8] bX12_scan_1 := by
  unfold bX12_scan_1
  exact (okPutC (p1 := 20) (p2 := 25) (p3 := 26) (k := 33) (τ := 0) (τb := 0) (ok_aload_n dX12_scan_19 (.head _) rfl (.head _)) dX12_scan_20 dX12_scan_21 (ok_iconst dX12_scan_24 (.head _) (irn (by decide) (by decide))) (s_iadd dX12_scan_25 (.head _)) rfl ci_12 (by decide) kf_X12_155 rfl (fun z _ => qfit_int z) dX12_scan_26 (.head _) rfl)
set_option maxRecDepth 100000 in
theorem ocX12_scan_1 : OkC YX12_scan [(0, 2)] 0 8 [19] [32] cX12_scan_1 := by
  unfold cX12_scan_1
  exact (okCEf (p1 := 16) (okI (τ := 3) (okCallV (p1 := 13) (okCons (p1 := 9) (ok_aload_n dX12_scan_8 (.head _) rfl (.head _)) (okCons (p1 := 13) (okF (p1 := 10) (k := 33) (ok_aload_n dX12_scan_9 (.head _) rfl (.head _)) ci_12 (by decide) kf_X12_155 dX12_scan_10 (.head _) rfl rfl) okNil)) MX12_isBlank cf_X12_isBlank ci_12 rfl kc_X12_isBlank km_X12_158 ki_X12_isBlank kv_X12_isBlank kn_X12 (Nat.le_of_ble_eq_true rfl) (Nat.le_of_ble_eq_true rfl) dX12_scan_13 (.head _) (by decide) rfl (by decide)) t_3) (j_if_eq dX12_scan_16 rfl) (.head _) (.head _))
set_option maxRecDepth 100000 in
theorem ouX12_scan_1 : ∀ t ∈ ([29, 8] : List Nat), OkS YX12_scan [(0, 2)] [(0, 2)] t [8] [] [] [] [] uX12_scan_1 := by
  unfold uX12_scan_1
  exact (List.forall_mem_cons.mpr ⟨okGo dX12_scan_29 (tg := 8) rfl (okSkip (.head _)), one (okSkip (.head _))⟩)
def sX12_scan : QT :=
 (sSeq (sPut 12 33 (eV 0) (eF 12 32 (eV 0)))
 (sSeq (sWhile cX12_scan_1 bX12_scan_1 uX12_scan_1)
 (sSeq (sPut 12 32 (eV 0) (e2 iA (eF 12 33 (eV 0)) (eI 1)))
 (sSeq (sSet 1 (eCallV 12 mX12_signAt [(eV 0), (eF 12 33 (eV 0))]))
 (sSeq (sIf (cB qge (eF 12 33 (eV 0)) (eF 12 31 (eV 0))) (sSeq (sPut 12 32 (eV 0) (eF 12 33 (eV 0)))
 (sPut 12 34 (eV 0) (eI 0))) (sIf (cE (eCall mX12_isLetter [(eV 1)])) (sDo (eCallV 12 mX12_scanWord [(eV 0)])) (sIf (cE (eCall mX12_isDigit [(eV 1)])) (sDo (eCallV 12 mX12_scanNumber [(eV 0)])) (sPut 12 34 (eV 0) (eIf (cE (eCall mX12_isSign [(eV 1)])) (eI 4) (eI 1))))))
 sRetV)))))
set_option maxRecDepth 100000 in
theorem oX12_scan : OkS YX12_scan [(0, 2)] [(0, 2), (1, 0)] 0 [] [] [] [] [] sX12_scan := by
  unfold sX12_scan
  exact (okSeq (p1 := 8) (Γ1 := [(0, 2)]) (okPut (p1 := 1) (p2 := 5) (k := 33) (ok_aload_n dX12_scan_0 (.head _) rfl (.head _)) (okF (p1 := 2) (k := 32) (ok_aload_n dX12_scan_1 (.head _) rfl (.head _)) ci_12 (by decide) kf_X12_152 dX12_scan_2 (.head _) rfl rfl) rfl ci_12 (by decide) kf_X12_155 rfl (fun z _ => qfit_int z) dX12_scan_5 (.head _) rfl)
 (okSeq (p1 := 32) (Γ1 := [(0, 2)]) (okWhile (T := [19]) (F := [32]) (Eb := [29, 8]) ocX12_scan_1 (fun _ h => h) (one obX12_scan_1) ouX12_scan_1)
 (okSeq (p1 := 42) (Γ1 := [(0, 2)]) (okPut (p1 := 33) (p2 := 39) (k := 32) (ok_aload_n dX12_scan_32 (.head _) rfl (.head _)) (okE2 (p1 := 37) (p2 := 38) (τa := 0) (τb := 0) (okF (p1 := 34) (k := 33) (ok_aload_n dX12_scan_33 (.head _) rfl (.head _)) ci_12 (by decide) kf_X12_155 dX12_scan_34 (.head _) rfl rfl) (ok_iconst dX12_scan_37 (.head _) (irn (by decide) (by decide))) (s_iadd dX12_scan_38 (.head _))) rfl ci_12 (by decide) kf_X12_152 rfl (fun z _ => qfit_int z) dX12_scan_39 (.head _) rfl)
 (okSeq (p1 := 51) (Γ1 := [(0, 2), (1, 0)]) (ok_istore_n (Γ' := [(0, 2), (1, 0)]) (p1 := 50) (τ := 0) (okCallV (p1 := 47) (okCons (p1 := 43) (ok_aload_n dX12_scan_42 (.head _) rfl (.head _)) (okCons (p1 := 47) (okF (p1 := 44) (k := 33) (ok_aload_n dX12_scan_43 (.head _) rfl (.head _)) ci_12 (by decide) kf_X12_155 dX12_scan_44 (.head _) rfl rfl) okNil)) MX12_signAt cf_X12_signAt ci_12 rfl kc_X12_signAt km_X12_162 ki_X12_signAt kv_X12_signAt kn_X12 (Nat.le_of_ble_eq_true rfl) (Nat.le_of_ble_eq_true rfl) dX12_scan_47 (.head _) (by decide) rfl (by decide)) t_0 dX12_scan_50 rfl (by decide) (.head _) (by decide))
 (okSeq (p1 := 122) (Γ1 := [(0, 2), (1, 0)]) (okIf (Γ' := [(0, 2), (1, 0)]) (T := [62]) (F := [78]) (okCBf (p1 := 55) (p2 := 59) (τa := 0) (τb := 0) (okF (p1 := 52) (k := 33) (ok_aload_n dX12_scan_51 (.head _) rfl (.head _)) ci_12 (by decide) kf_X12_155 dX12_scan_52 (.head _) rfl rfl) (okF (p1 := 56) (k := 31) (ok_aload_n dX12_scan_55 (.head _) rfl (.head _)) ci_12 (by decide) kf_X12_149 dX12_scan_56 (.head _) rfl rfl) (j_icmp_lt dX12_scan_59 rfl) nq_ge (.head _) (.head _)) (one (okEnd (p1 := 75) (tg := 122) (okSeq (p1 := 70) (Γ1 := [(0, 2), (1, 0)]) (okPut (p1 := 63) (p2 := 67) (k := 32) (ok_aload_n dX12_scan_62 (.head _) rfl (.head _)) (okF (p1 := 64) (k := 33) (ok_aload_n dX12_scan_63 (.head _) rfl (.head _)) ci_12 (by decide) kf_X12_155 dX12_scan_64 (.head _) rfl rfl) rfl ci_12 (by decide) kf_X12_152 rfl (fun z _ => qfit_int z) dX12_scan_67 (.head _) rfl)
 (okPut (p1 := 71) (p2 := 72) (k := 34) (ok_aload_n dX12_scan_70 (.head _) rfl (.head _)) (ok_iconst dX12_scan_71 (.head _) (irn (by decide) (by decide))) rfl ci_12 (by decide) kf_X12_166 rfl (fun z _ => qfit_int z) dX12_scan_72 (.head _) rfl)) dX12_scan_75 rfl (.head _))) (one (okIf (Γ' := [(0, 2), (1, 0)]) (T := [85]) (F := [92]) (okCEf (p1 := 82) (okI (τ := 3) (okCallS (p1 := 79) (okCons (p1 := 79) (ok_iload_n dX12_scan_78 (.head _) rfl (.tail _ (.head _)) t_0) okNil) MX12_isLetter cf_X12_isLetter rfl kc_X12_isLetter km_X12_169 ks_X12_isLetter kn_X12 (Nat.le_of_ble_eq_true rfl) (Nat.le_of_ble_eq_true rfl) dX12_scan_79 (.head _) (by decide) rfl (by decide)) t_3) (j_if_eq dX12_scan_82 rfl) (.head _) (.head _)) (one (okEnd (p1 := 89) (tg := 122) (okDoV (p1 := 86) (okCons (p1 := 86) (ok_aload_n dX12_scan_85 (.head _) rfl (.head _)) okNil) MX12_scanWord cf_X12_scanWord ci_12 rfl kc_X12_scanWord km_X12_172 ki_X12_scanWord kv_X12_scanWord kn_X12 (Nat.le_of_ble_eq_true rfl) (Nat.le_of_ble_eq_true rfl) dX12_scan_86 (.head _) rfl) dX12_scan_89 rfl (.head _))) (one (okIf (Γ' := [(0, 2), (1, 0)]) (T := [99]) (F := [106]) (okCEf (p1 := 96) (okI (τ := 3) (okCallS (p1 := 93) (okCons (p1 := 93) (ok_iload_n dX12_scan_92 (.head _) rfl (.tail _ (.head _)) t_0) okNil) MX12_isDigit cf_X12_isDigit rfl kc_X12_isDigit km_X12_175 ks_X12_isDigit kn_X12 (Nat.le_of_ble_eq_true rfl) (Nat.le_of_ble_eq_true rfl) dX12_scan_93 (.head _) (by decide) rfl (by decide)) t_3) (j_if_eq dX12_scan_96 rfl) (.head _) (.head _)) (one (okEnd (p1 := 103) (tg := 122) (okDoV (p1 := 100) (okCons (p1 := 100) (ok_aload_n dX12_scan_99 (.head _) rfl (.head _)) okNil) MX12_scanNumber cf_X12_scanNumber ci_12 rfl kc_X12_scanNumber km_X12_178 ki_X12_scanNumber kv_X12_scanNumber kn_X12 (Nat.le_of_ble_eq_true rfl) (Nat.le_of_ble_eq_true rfl) dX12_scan_100 (.head _) rfl) dX12_scan_103 rfl (.head _))) (one (okPut (p1 := 107) (p2 := 119) (k := 34) (ok_aload_n dX12_scan_106 (.head _) rfl (.head _)) (okIfE (pt := 114) (pf := 118) (p1 := 115) (pe := 119) (okCEf (p1 := 111) (okI (τ := 3) (okCallS (p1 := 108) (okCons (p1 := 108) (ok_iload_n dX12_scan_107 (.head _) rfl (.tail _ (.head _)) t_0) okNil) MX12_isSign cf_X12_isSign rfl kc_X12_isSign km_X12_181 ks_X12_isSign kn_X12 (Nat.le_of_ble_eq_true rfl) (Nat.le_of_ble_eq_true rfl) dX12_scan_108 (.head _) (by decide) rfl (by decide)) t_3) (j_if_eq dX12_scan_111 rfl) (.head _) (.head _)) (ok_iconst dX12_scan_114 (.head _) (irn (by decide) (by decide))) dX12_scan_115 rfl (.head _) (ok_iconst dX12_scan_118 (.head _) (irn (by decide) (by decide)))) rfl ci_12 (by decide) kf_X12_166 rfl (fun z _ => qfit_int z) dX12_scan_119 (.head _) rfl)))))))
 (okRetV rfl dX12_scan_122))))))
def mX12_scan : QM := qM [2] sX12_scan
theorem MX12_scan : MetY YX12_scan yX12_scan none [2] mX12_scan := metY_of rfl (by decide +kernel) (.inr (.inr (.inr (.inl ⟨rfl, rfl⟩)))) (by decide) oX12_scan

abbrev YX12_fail : YT := (RX12, cX12_fail, 2, 0, 0, 9)
theorem cf_X12_fail : CF yX12_fail 1 := ⟨by decide +kernel, by decide +kernel, by decide +kernel⟩
def sX12_fail : QT :=
 (sSeq (sIf (cB qgt (eF 12 37 (eV 0)) (eI 0)) sRetV sSkip)
 (sSeq (sPut 12 37 (eV 0) (eV 1))
 (sSeq (sPut 12 38 (eV 0) (eF 12 33 (eV 0)))
 sRetV)))
set_option maxRecDepth 100000 in
theorem oX12_fail : OkS YX12_fail [(0, 2), (1, 0)] [(0, 2), (1, 0)] 0 [] [] [] [] [] sX12_fail := by
  unfold sX12_fail
  exact (okSeq (p1 := 8) (Γ1 := [(0, 2), (1, 0)]) (okIf (Γ' := [(0, 2), (1, 0)]) (T := [7]) (F := [8]) (okCZf (p1 := 4) (τa := 0) (okF (p1 := 1) (k := 37) (ok_aload_n dX12_fail_0 (.head _) rfl (.head _)) ci_12 (by decide) kf_X12_195 dX12_fail_1 (.head _) rfl rfl) (j_if_le dX12_fail_4 rfl) nq_gt (.head _) (.head _)) (one (okRetV rfl dX12_fail_7)) (fun t ht => okSkip ht))
 (okSeq (p1 := 13) (Γ1 := [(0, 2), (1, 0)]) (okPut (p1 := 9) (p2 := 10) (k := 37) (ok_aload_n dX12_fail_8 (.head _) rfl (.head _)) (ok_iload_n dX12_fail_9 (.head _) rfl (.tail _ (.head _)) t_0) rfl ci_12 (by decide) kf_X12_195 rfl (fun z _ => qfit_int z) dX12_fail_10 (.head _) rfl)
 (okSeq (p1 := 21) (Γ1 := [(0, 2), (1, 0)]) (okPut (p1 := 14) (p2 := 18) (k := 38) (ok_aload_n dX12_fail_13 (.head _) rfl (.head _)) (okF (p1 := 15) (k := 33) (ok_aload_n dX12_fail_14 (.head _) rfl (.head _)) ci_12 (by decide) kf_X12_155 dX12_fail_15 (.head _) rfl rfl) rfl ci_12 (by decide) kf_X12_198 rfl (fun z _ => qfit_int z) dX12_fail_18 (.head _) rfl)
 (okRetV rfl dX12_fail_21))))
def mX12_fail : QM := qM [2, 0] sX12_fail
theorem MX12_fail : MetY YX12_fail yX12_fail none [2, 0] mX12_fail := metY_of rfl (by decide +kernel) (.inr (.inr (.inr (.inl ⟨rfl, rfl⟩)))) (by decide) oX12_fail

abbrev YX12_isAt : YT := (RX12, cX12_isAt, 2, 1, 21, 3)
theorem cf_X12_isAt : CF yX12_isAt 1 := ⟨by decide +kernel, by decide +kernel, by decide +kernel⟩
def sX12_isAt : QT :=
 (sRet (eB (cAnd (cAnd (cB qeq (eF 12 37 (eV 0)) (eI 0)) (cB qeq (eF 12 34 (eV 0)) (eI 4))) (cB qeq (eCallV 12 mX12_signAt [(eV 0), (eF 12 33 (eV 0))]) (eV 1)))))
set_option maxRecDepth 100000 in
theorem oX12_isAt : OkS YX12_isAt [(0, 2), (1, 0)] [(0, 2), (1, 0)] 0 [] [] [] [] [] sX12_isAt := by
  unfold sX12_isAt
  exact (okRet (p1 := 32) (τ := 3) (okBv (pt := 27) (pf := 31) (pe := 32) (okAnd (p1 := 15) (okAnd (p1 := 7) (okCZf (p1 := 4) (τa := 0) (okF (p1 := 1) (k := 37) (ok_aload_n dX12_isAt_0 (.head _) rfl (.head _)) ci_12 (by decide) kf_X12_195 dX12_isAt_1 (.head _) rfl rfl) (j_if_ne dX12_isAt_4 rfl) nq_eq (.head _) (.head _)) (okCBf (p1 := 11) (p2 := 12) (τa := 0) (τb := 0) (okF (p1 := 8) (k := 34) (ok_aload_n dX12_isAt_7 (.head _) rfl (.head _)) ci_12 (by decide) kf_X12_166 dX12_isAt_8 (.head _) rfl rfl) (ok_iconst dX12_isAt_11 (.head _) (irn (by decide) (by decide))) (j_icmp_ne dX12_isAt_12 rfl) nq_eq (.head _) (.head _))) (okCBf (p1 := 23) (p2 := 24) (τa := 0) (τb := 0) (okCallV (p1 := 20) (okCons (p1 := 16) (ok_aload_n dX12_isAt_15 (.head _) rfl (.head _)) (okCons (p1 := 20) (okF (p1 := 17) (k := 33) (ok_aload_n dX12_isAt_16 (.head _) rfl (.head _)) ci_12 (by decide) kf_X12_155 dX12_isAt_17 (.head _) rfl rfl) okNil)) MX12_signAt cf_X12_signAt ci_12 rfl kc_X12_signAt km_X12_162 ki_X12_signAt kv_X12_signAt kn_X12 (Nat.le_of_ble_eq_true rfl) (Nat.le_of_ble_eq_true rfl) dX12_isAt_20 (.head _) (by decide) rfl (by decide)) (ok_iload_n dX12_isAt_23 (.head _) rfl (.tail _ (.head _)) t_0) (j_icmp_ne dX12_isAt_24 rfl) nq_eq (.head _) (.head _))) dX12_isAt_27 dX12_isAt_28 rfl dX12_isAt_31 (.head _) (.head _)) rfl (by decide) dX12_isAt_32)
def mX12_isAt : QM := qM [2, 0] sX12_isAt
theorem MX12_isAt : MetY YX12_isAt yX12_isAt (some .boolean) [2, 0] mX12_isAt := metY_of rfl (by decide +kernel) (.inr (.inl ⟨rfl, rfl⟩)) (by decide) oX12_isAt

abbrev YX12_isWord : YT := (RX12, cX12_isWord, 2, 0, 0, 3)
theorem cf_X12_isWord : CF yX12_isWord 1 := ⟨by decide +kernel, by decide +kernel, by decide +kernel⟩
def sX12_isWord : QT :=
 (sRet (eB (cAnd (cAnd (cB qeq (eF 12 37 (eV 0)) (eI 0)) (cB qeq (eF 12 34 (eV 0)) (eI 2))) (cB qeq (eF 12 36 (eV 0)) (eV 1)))))
set_option maxRecDepth 100000 in
theorem oX12_isWord : OkS YX12_isWord [(0, 2), (1, 0)] [(0, 2), (1, 0)] 0 [] [] [] [] [] sX12_isWord := by
  unfold sX12_isWord
  exact (okRet (p1 := 28) (τ := 3) (okBv (pt := 23) (pf := 27) (pe := 28) (okAnd (p1 := 15) (okAnd (p1 := 7) (okCZf (p1 := 4) (τa := 0) (okF (p1 := 1) (k := 37) (ok_aload_n dX12_isWord_0 (.head _) rfl (.head _)) ci_12 (by decide) kf_X12_195 dX12_isWord_1 (.head _) rfl rfl) (j_if_ne dX12_isWord_4 rfl) nq_eq (.head _) (.head _)) (okCBf (p1 := 11) (p2 := 12) (τa := 0) (τb := 0) (okF (p1 := 8) (k := 34) (ok_aload_n dX12_isWord_7 (.head _) rfl (.head _)) ci_12 (by decide) kf_X12_166 dX12_isWord_8 (.head _) rfl rfl) (ok_iconst dX12_isWord_11 (.head _) (irn (by decide) (by decide))) (j_icmp_ne dX12_isWord_12 rfl) nq_eq (.head _) (.head _))) (okCBf (p1 := 19) (p2 := 20) (τa := 0) (τb := 0) (okF (p1 := 16) (k := 36) (ok_aload_n dX12_isWord_15 (.head _) rfl (.head _)) ci_12 (by decide) kf_X12_184 dX12_isWord_16 (.head _) rfl rfl) (ok_iload_n dX12_isWord_19 (.head _) rfl (.tail _ (.head _)) t_0) (j_icmp_ne dX12_isWord_20 rfl) nq_eq (.head _) (.head _))) dX12_isWord_23 dX12_isWord_24 rfl dX12_isWord_27 (.head _) (.head _)) rfl (by decide) dX12_isWord_28)
def mX12_isWord : QM := qM [2, 0] sX12_isWord
theorem MX12_isWord : MetY YX12_isWord yX12_isWord (some .boolean) [2, 0] mX12_isWord := metY_of rfl (by decide +kernel) (.inr (.inl ⟨rfl, rfl⟩)) (by decide) oX12_isWord

abbrev YX12_need : YT := (RX12, cX12_need, 2, 3, 67, 9)
theorem cf_X12_need : CF yX12_need 1 := ⟨by decide +kernel, by decide +kernel, by decide +kernel⟩
def sX12_need : QT :=
 (sSeq (sIf (cE (eCallV 12 mX12_isAt [(eV 0), (eV 1)])) (sDo (eCallV 12 mX12_scan [(eV 0)])) (sDo (eCallV 12 mX12_fail [(eV 0), (eI 1)])))
 sRetV)
set_option maxRecDepth 100000 in
theorem oX12_need : OkS YX12_need [(0, 2), (1, 0)] [(0, 2), (1, 0)] 0 [] [] [] [] [] sX12_need := by
  unfold sX12_need
  exact (okSeq (p1 := 20) (Γ1 := [(0, 2), (1, 0)]) (okIf (Γ' := [(0, 2), (1, 0)]) (T := [8]) (F := [15]) (okCEf (p1 := 5) (okI (τ := 3) (okCallV (p1 := 2) (okCons (p1 := 1) (ok_aload_n dX12_need_0 (.head _) rfl (.head _)) (okCons (p1 := 2) (ok_iload_n dX12_need_1 (.head _) rfl (.tail _ (.head _)) t_0) okNil)) MX12_isAt cf_X12_isAt ci_12 rfl kc_X12_isAt km_X12_201 ki_X12_isAt kv_X12_isAt kn_X12 (Nat.le_of_ble_eq_true rfl) (Nat.le_of_ble_eq_true rfl) dX12_need_2 (.head _) (by decide) rfl (by decide)) t_3) (j_if_eq dX12_need_5 rfl) (.head _) (.head _)) (one (okEnd (p1 := 12) (tg := 20) (okDoV (p1 := 9) (okCons (p1 := 9) (ok_aload_n dX12_need_8 (.head _) rfl (.head _)) okNil) MX12_scan cf_X12_scan ci_12 rfl kc_X12_scan km_X12_204 ki_X12_scan kv_X12_scan kn_X12 (Nat.le_of_ble_eq_true rfl) (Nat.le_of_ble_eq_true rfl) dX12_need_9 (.head _) rfl) dX12_need_12 rfl (.head _))) (one (okDoV (p1 := 17) (okCons (p1 := 16) (ok_aload_n dX12_need_15 (.head _) rfl (.head _)) (okCons (p1 := 17) (ok_iconst dX12_need_16 (.head _) (irn (by decide) (by decide))) okNil)) MX12_fail cf_X12_fail ci_12 rfl kc_X12_fail km_X12_207 ki_X12_fail kv_X12_fail kn_X12 (Nat.le_of_ble_eq_true rfl) (Nat.le_of_ble_eq_true rfl) dX12_need_17 (.head _) rfl)))
 (okRetV rfl dX12_need_20))
def mX12_need : QM := qM [2, 0] sX12_need
theorem MX12_need : MetY YX12_need yX12_need none [2, 0] mX12_need := metY_of rfl (by decide +kernel) (.inr (.inr (.inr (.inl ⟨rfl, rfl⟩)))) (by decide) oX12_need

abbrev YX12_needWord : YT := (RX12, cX12_needWord, 2, 3, 67, 9)
theorem cf_X12_needWord : CF yX12_needWord 1 := ⟨by decide +kernel, by decide +kernel, by decide +kernel⟩
def sX12_needWord : QT :=
 (sSeq (sIf (cE (eCallV 12 mX12_isWord [(eV 0), (eV 1)])) (sDo (eCallV 12 mX12_scan [(eV 0)])) (sDo (eCallV 12 mX12_fail [(eV 0), (eI 1)])))
 sRetV)
set_option maxRecDepth 100000 in
theorem oX12_needWord : OkS YX12_needWord [(0, 2), (1, 0)] [(0, 2), (1, 0)] 0 [] [] [] [] [] sX12_needWord := by
  unfold sX12_needWord
  exact (okSeq (p1 := 20) (Γ1 := [(0, 2), (1, 0)]) (okIf (Γ' := [(0, 2), (1, 0)]) (T := [8]) (F := [15]) (okCEf (p1 := 5) (okI (τ := 3) (okCallV (p1 := 2) (okCons (p1 := 1) (ok_aload_n dX12_needWord_0 (.head _) rfl (.head _)) (okCons (p1 := 2) (ok_iload_n dX12_needWord_1 (.head _) rfl (.tail _ (.head _)) t_0) okNil)) MX12_isWord cf_X12_isWord ci_12 rfl kc_X12_isWord km_X12_210 ki_X12_isWord kv_X12_isWord kn_X12 (Nat.le_of_ble_eq_true rfl) (Nat.le_of_ble_eq_true rfl) dX12_needWord_2 (.head _) (by decide) rfl (by decide)) t_3) (j_if_eq dX12_needWord_5 rfl) (.head _) (.head _)) (one (okEnd (p1 := 12) (tg := 20) (okDoV (p1 := 9) (okCons (p1 := 9) (ok_aload_n dX12_needWord_8 (.head _) rfl (.head _)) okNil) MX12_scan cf_X12_scan ci_12 rfl kc_X12_scan km_X12_204 ki_X12_scan kv_X12_scan kn_X12 (Nat.le_of_ble_eq_true rfl) (Nat.le_of_ble_eq_true rfl) dX12_needWord_9 (.head _) rfl) dX12_needWord_12 rfl (.head _))) (one (okDoV (p1 := 17) (okCons (p1 := 16) (ok_aload_n dX12_needWord_15 (.head _) rfl (.head _)) (okCons (p1 := 17) (ok_iconst dX12_needWord_16 (.head _) (irn (by decide) (by decide))) okNil)) MX12_fail cf_X12_fail ci_12 rfl kc_X12_fail km_X12_207 ki_X12_fail kv_X12_fail kn_X12 (Nat.le_of_ble_eq_true rfl) (Nat.le_of_ble_eq_true rfl) dX12_needWord_17 (.head _) rfl)))
 (okRetV rfl dX12_needWord_20))
def mX12_needWord : QM := qM [2, 0] sX12_needWord
theorem MX12_needWord : MetY YX12_needWord yX12_needWord none [2, 0] mX12_needWord := metY_of rfl (by decide +kernel) (.inr (.inr (.inr (.inl ⟨rfl, rfl⟩)))) (by decide) oX12_needWord

abbrev YX12_numeral : YT := (RX12, cX12_numeral, 4, 3, 67, 0)
theorem cf_X12_numeral : CF yX12_numeral 2 := ⟨by decide +kernel, by decide +kernel, by decide +kernel⟩
def sX12_numeral : QT :=
 (sSeq (sIf (cB qne (eF 12 34 (eV 0)) (eI 3)) (sDo (eCallV 12 mX12_fail [(eV 0), (eI 1)])) (sIf (cNot (cE (eCall mX12_isIn [(eF 12 35 (eV 0)), (eV 1), (eV 2)]))) (sDo (eCallV 12 mX12_fail [(eV 0), (eI 2)])) sSkip))
 (sSeq (sSet 3 (eF 12 35 (eV 0)))
 (sSeq (sIf (cB qeq (eF 12 37 (eV 0)) (eI 0)) (sDo (eCallV 12 mX12_scan [(eV 0)])) sSkip)
 (sRet (eV 3)))))
set_option maxRecDepth 100000 in
theorem oX12_numeral : OkS YX12_numeral [(0, 2), (1, 0), (2, 0)] [(0, 2), (1, 0), (2, 0), (3, 0)] 0 [] [] [] [] [] sX12_numeral := by
  unfold sX12_numeral
  exact (okSeq (p1 := 36) (Γ1 := [(0, 2), (1, 0), (2, 0)]) (okIf (Γ' := [(0, 2), (1, 0), (2, 0)]) (T := [8]) (F := [16]) (okCBf (p1 := 4) (p2 := 5) (τa := 0) (τb := 0) (okF (p1 := 1) (k := 34) (ok_aload_n dX12_numeral_0 (.head _) rfl (.head _)) ci_12 (by decide) kf_X12_166 dX12_numeral_1 (.head _) rfl rfl) (ok_iconst dX12_numeral_4 (.head _) (irn (by decide) (by decide))) (j_icmp_eq dX12_numeral_5 rfl) nq_ne (.head _) (.head _)) (one (okEnd (p1 := 13) (tg := 36) (okDoV (p1 := 10) (okCons (p1 := 9) (ok_aload_n dX12_numeral_8 (.head _) rfl (.head _)) (okCons (p1 := 10) (ok_iconst dX12_numeral_9 (.head _) (irn (by decide) (by decide))) okNil)) MX12_fail cf_X12_fail ci_12 rfl kc_X12_fail km_X12_207 ki_X12_fail kv_X12_fail kn_X12 (Nat.le_of_ble_eq_true rfl) (Nat.le_of_ble_eq_true rfl) dX12_numeral_10 (.head _) rfl) dX12_numeral_13 rfl (.head _))) (one (okIf (Γ' := [(0, 2), (1, 0), (2, 0)]) (T := [31]) (F := [36]) (okNot (okCEt (p1 := 28) (okI (τ := 3) (okCallS (p1 := 25) (okCons (p1 := 21) (okL (p1 := 20) (okF (p1 := 17) (k := 35) (ok_aload_n dX12_numeral_16 (.head _) rfl (.head _)) ci_12 (by decide) kf_X12_191 dX12_numeral_17 (.head _) rfl rfl) dX12_numeral_20 (.head _)) (okCons (p1 := 23) (okL (p1 := 22) (ok_iload_n dX12_numeral_21 (.head _) rfl (.tail _ (.head _)) t_0) dX12_numeral_22 (.head _)) (okCons (p1 := 25) (okL (p1 := 24) (ok_iload_n dX12_numeral_23 (.head _) rfl (.tail _ (.tail _ (.head _))) t_0) dX12_numeral_24 (.head _)) okNil))) MX12_isIn cf_X12_isIn rfl kc_X12_isIn km_X12_213 ks_X12_isIn kn_X12 (Nat.le_of_ble_eq_true rfl) (Nat.le_of_ble_eq_true rfl) dX12_numeral_25 (.head _) (by decide) rfl (by decide)) t_3) (j_if_ne dX12_numeral_28 rfl) (.head _) (.head _))) (one (okDoV (p1 := 33) (okCons (p1 := 32) (ok_aload_n dX12_numeral_31 (.head _) rfl (.head _)) (okCons (p1 := 33) (ok_iconst dX12_numeral_32 (.head _) (irn (by decide) (by decide))) okNil)) MX12_fail cf_X12_fail ci_12 rfl kc_X12_fail km_X12_207 ki_X12_fail kv_X12_fail kn_X12 (Nat.le_of_ble_eq_true rfl) (Nat.le_of_ble_eq_true rfl) dX12_numeral_33 (.head _) rfl)) (fun t ht => okSkip ht))))
 (okSeq (p1 := 41) (Γ1 := [(0, 2), (1, 0), (2, 0), (3, 0)]) (ok_istore_n (Γ' := [(0, 2), (1, 0), (2, 0), (3, 0)]) (p1 := 40) (τ := 0) (okF (p1 := 37) (k := 35) (ok_aload_n dX12_numeral_36 (.head _) rfl (.head _)) ci_12 (by decide) kf_X12_191 dX12_numeral_37 (.head _) rfl rfl) t_0 dX12_numeral_40 rfl (by decide) (.head _) (by decide))
 (okSeq (p1 := 52) (Γ1 := [(0, 2), (1, 0), (2, 0), (3, 0)]) (okIf (Γ' := [(0, 2), (1, 0), (2, 0), (3, 0)]) (T := [48]) (F := [52]) (okCZf (p1 := 45) (τa := 0) (okF (p1 := 42) (k := 37) (ok_aload_n dX12_numeral_41 (.head _) rfl (.head _)) ci_12 (by decide) kf_X12_195 dX12_numeral_42 (.head _) rfl rfl) (j_if_ne dX12_numeral_45 rfl) nq_eq (.head _) (.head _)) (one (okDoV (p1 := 49) (okCons (p1 := 49) (ok_aload_n dX12_numeral_48 (.head _) rfl (.head _)) okNil) MX12_scan cf_X12_scan ci_12 rfl kc_X12_scan km_X12_204 ki_X12_scan kv_X12_scan kn_X12 (Nat.le_of_ble_eq_true rfl) (Nat.le_of_ble_eq_true rfl) dX12_numeral_49 (.head _) rfl)) (fun t ht => okSkip ht))
 (okRet (p1 := 53) (τ := 0) (ok_iload_n dX12_numeral_52 (.head _) rfl (.tail _ (.tail _ (.tail _ (.head _)))) t_0) rfl (by decide) dX12_numeral_53))))
def mX12_numeral : QM := qM [2, 0, 0] sX12_numeral
theorem MX12_numeral : MetY YX12_numeral yX12_numeral (some .int) [2, 0, 0] mX12_numeral := metY_of rfl (by decide +kernel) (.inl ⟨rfl, rfl⟩) (by decide) oX12_numeral

abbrev YX12_isName : YT := (RX12, cX12_isName, 1, 0, 0, 3)
theorem cf_X12_isName : CF yX12_isName 0 := ⟨by decide +kernel, by decide +kernel, by decide +kernel⟩
def sX12_isName : QT :=
 (sRet (eB (cAnd (cAnd (cB qeq (eF 12 37 (eV 0)) (eI 0)) (cB qeq (eF 12 34 (eV 0)) (eI 2))) (cB qeq (eF 12 36 (eV 0)) (eI (-1))))))
set_option maxRecDepth 100000 in
theorem oX12_isName : OkS YX12_isName [(0, 2)] [(0, 2)] 0 [] [] [] [] [] sX12_isName := by
  unfold sX12_isName
  exact (okRet (p1 := 28) (τ := 3) (okBv (pt := 23) (pf := 27) (pe := 28) (okAnd (p1 := 15) (okAnd (p1 := 7) (okCZf (p1 := 4) (τa := 0) (okF (p1 := 1) (k := 37) (ok_aload_n dX12_isName_0 (.head _) rfl (.head _)) ci_12 (by decide) kf_X12_195 dX12_isName_1 (.head _) rfl rfl) (j_if_ne dX12_isName_4 rfl) nq_eq (.head _) (.head _)) (okCBf (p1 := 11) (p2 := 12) (τa := 0) (τb := 0) (okF (p1 := 8) (k := 34) (ok_aload_n dX12_isName_7 (.head _) rfl (.head _)) ci_12 (by decide) kf_X12_166 dX12_isName_8 (.head _) rfl rfl) (ok_iconst dX12_isName_11 (.head _) (irn (by decide) (by decide))) (j_icmp_ne dX12_isName_12 rfl) nq_eq (.head _) (.head _))) (okCBf (p1 := 19) (p2 := 20) (τa := 0) (τb := 0) (okF (p1 := 16) (k := 36) (ok_aload_n dX12_isName_15 (.head _) rfl (.head _)) ci_12 (by decide) kf_X12_184 dX12_isName_16 (.head _) rfl rfl) (ok_iconst dX12_isName_19 (.head _) (irn (by decide) (by decide))) (j_icmp_ne dX12_isName_20 rfl) nq_eq (.head _) (.head _))) dX12_isName_23 dX12_isName_24 rfl dX12_isName_27 (.head _) (.head _)) rfl (by decide) dX12_isName_28)
def mX12_isName : QM := qM [2] sX12_isName
theorem MX12_isName : MetY YX12_isName yX12_isName (some .boolean) [2] mX12_isName := metY_of rfl (by decide +kernel) (.inr (.inl ⟨rfl, rfl⟩)) (by decide) oX12_isName

abbrev YX12_isNamed : YT := (RX12, cX12_isNamed, 3, 0, 0, 3)
theorem cf_X12_isNamed : CF yX12_isNamed 1 := ⟨by decide +kernel, by decide +kernel, by decide +kernel⟩
def cX12_isNamed_1 : QC :=
 (cB qlt (eV 2) (eA 40 (eF 12 26 (eV 0)) (eV 1)))
def bX12_isNamed_1 : QT :=
 (sIf (cB qne (eA 42 (eF 12 29 (eV 0)) (e2 iA (eA 40 (eF 12 25 (eV 0)) (eV 1)) (eV 2))) (eA 42 (eF 12 29 (eV 0)) (e2 iA (eF 12 33 (eV 0)) (eV 2)))) (sRet (eI 0)) sSkip)
def uX12_isNamed_1 : QT :=
 (sInc 2 1)
set_option maxRecDepth 100000 in
theorem obX12_isNamed_1 : OkS YX12_isNamed [(0, 2), (1, 0), (2, 0)] [(0, 2), (1, 0), (2, 0)] 32 [61] [(0, 2), (1, 0), (2, 0)] [67] [(0, 2), (1, 0), (2, 0)] [61] bX12_isNamed_1 := by
  unfold bX12_isNamed_1
  exact (okIf (Γ' := [(0, 2), (1, 0), (2, 0)]) (T := [59]) (F := [61]) (okCBf (p1 := 45) (p2 := 56) (τa := 0) (τb := 0) (okI (τ := 4) (ok_baload (p1 := 36) (p2 := 44) (okF (p1 := 33) (k := 29) (ok_aload_n dX12_isNamed_32 (.head _) rfl (.head _)) ci_12 (by decide) kf_X12_93 dX12_isNamed_33 (.head _) rfl rfl) (okE2 (p1 := 42) (p2 := 43) (τa := 0) (τb := 0) (ok_iaload (.inr rfl) (p1 := 40) (p2 := 41) (okF (p1 := 37) (k := 25) (ok_aload_n dX12_isNamed_36 (.head _) rfl (.head _)) ci_12 (by decide) kf_X12_87 dX12_isNamed_37 (.head _) rfl rfl) (ok_iload_n dX12_isNamed_40 (.head _) rfl (.tail _ (.head _)) t_0) dX12_isNamed_41 (.head _)) (ok_iload_n dX12_isNamed_42 (.head _) rfl (.tail _ (.tail _ (.head _))) t_0) (s_iadd dX12_isNamed_43 (.head _))) dX12_isNamed_44 (.head _)) t_4) (okI (τ := 4) (ok_baload (p1 := 49) (p2 := 55) (okF (p1 := 46) (k := 29) (ok_aload_n dX12_isNamed_45 (.head _) rfl (.head _)) ci_12 (by decide) kf_X12_93 dX12_isNamed_46 (.head _) rfl rfl) (okE2 (p1 := 53) (p2 := 54) (τa := 0) (τb := 0) (okF (p1 := 50) (k := 33) (ok_aload_n dX12_isNamed_49 (.head _) rfl (.head _)) ci_12 (by decide) kf_X12_155 dX12_isNamed_50 (.head _) rfl rfl) (ok_iload_n dX12_isNamed_53 (.head _) rfl (.tail _ (.tail _ (.head _))) t_0) (s_iadd dX12_isNamed_54 (.head _))) dX12_isNamed_55 (.head _)) t_4) (j_icmp_eq dX12_isNamed_56 rfl) nq_ne (.head _) (.head _)) (one (okRet (p1 := 60) (τ := 3) (ok_zconst dX12_isNamed_59 (.head _) ⟨by decide, by decide⟩) rfl (by decide) dX12_isNamed_60)) (fun t ht => okSkip ht))
set_option maxRecDepth 100000 in
theorem ocX12_isNamed_1 : OkC YX12_isNamed [(0, 2), (1, 0), (2, 0)] 0 22 [32] [67] cX12_isNamed_1 := by
  unfold cX12_isNamed_1
  exact (okCBf (p1 := 23) (p2 := 29) (τa := 0) (τb := 0) (ok_iload_n dX12_isNamed_22 (.head _) rfl (.tail _ (.tail _ (.head _))) t_0) (ok_iaload (.inr rfl) (p1 := 27) (p2 := 28) (okF (p1 := 24) (k := 26) (ok_aload_n dX12_isNamed_23 (.head _) rfl (.head _)) ci_12 (by decide) kf_X12_90 dX12_isNamed_24 (.head _) rfl rfl) (ok_iload_n dX12_isNamed_27 (.head _) rfl (.tail _ (.head _)) t_0) dX12_isNamed_28 (.head _)) (j_icmp_ge dX12_isNamed_29 rfl) nq_lt (.head _) (.head _))
set_option maxRecDepth 100000 in
theorem ouX12_isNamed_1 : ∀ t ∈ ([61] : List Nat), OkS YX12_isNamed [(0, 2), (1, 0), (2, 0)] [(0, 2), (1, 0), (2, 0)] t [22] [] [] [] [] uX12_isNamed_1 := by
  unfold uX12_isNamed_1
  exact (one (okEnd (p1 := 64) (tg := 22) (okInc (.tail _ (.tail _ (.head _))) dX12_isNamed_61 (by decide) (.head _) (by decide)) dX12_isNamed_64 rfl (.head _)))
def sX12_isNamed : QT :=
 (sSeq (sIf (cB qne (eA 40 (eF 12 26 (eV 0)) (eV 1)) (e2 iS (eF 12 32 (eV 0)) (eF 12 33 (eV 0)))) (sRet (eI 0)) sSkip)
 (sSeq (sSeq (sSet 2 (eI 0))
 (sWhile cX12_isNamed_1 bX12_isNamed_1 uX12_isNamed_1))
 (sRet (eI 1))))
set_option maxRecDepth 100000 in
theorem oX12_isNamed : OkS YX12_isNamed [(0, 2), (1, 0)] [(0, 2), (1, 0)] 0 [] [] [] [] [] sX12_isNamed := by
  unfold sX12_isNamed
  exact (okSeq (p1 := 20) (Γ1 := [(0, 2), (1, 0)]) (okIf (Γ' := [(0, 2), (1, 0)]) (T := [18]) (F := [20]) (okCBf (p1 := 6) (p2 := 15) (τa := 0) (τb := 0) (ok_iaload (.inr rfl) (p1 := 4) (p2 := 5) (okF (p1 := 1) (k := 26) (ok_aload_n dX12_isNamed_0 (.head _) rfl (.head _)) ci_12 (by decide) kf_X12_90 dX12_isNamed_1 (.head _) rfl rfl) (ok_iload_n dX12_isNamed_4 (.head _) rfl (.tail _ (.head _)) t_0) dX12_isNamed_5 (.head _)) (okE2 (p1 := 10) (p2 := 14) (τa := 0) (τb := 0) (okF (p1 := 7) (k := 32) (ok_aload_n dX12_isNamed_6 (.head _) rfl (.head _)) ci_12 (by decide) kf_X12_152 dX12_isNamed_7 (.head _) rfl rfl) (okF (p1 := 11) (k := 33) (ok_aload_n dX12_isNamed_10 (.head _) rfl (.head _)) ci_12 (by decide) kf_X12_155 dX12_isNamed_11 (.head _) rfl rfl) (s_isub dX12_isNamed_14 (.head _))) (j_icmp_eq dX12_isNamed_15 rfl) nq_ne (.head _) (.head _)) (one (okRet (p1 := 19) (τ := 3) (ok_zconst dX12_isNamed_18 (.head _) ⟨by decide, by decide⟩) rfl (by decide) dX12_isNamed_19)) (fun t ht => okSkip ht))
 (okSeq (p1 := 67) (Γ1 := [(0, 2), (1, 0)]) (okWeak (Γ1 := [(0, 2), (1, 0), (2, 0)]) (okSeq (p1 := 22) (Γ1 := [(0, 2), (1, 0), (2, 0)]) (ok_istore_n (Γ' := [(0, 2), (1, 0), (2, 0)]) (p1 := 21) (τ := 0) (ok_iconst dX12_isNamed_20 (.head _) (irn (by decide) (by decide))) t_0 dX12_isNamed_21 rfl (by decide) (.head _) (by decide))
 (okWhile (T := [32]) (F := [67]) (Eb := [61]) ocX12_isNamed_1 (fun _ h => h) (one obX12_isNamed_1) ouX12_isNamed_1)) (by decide))
 (okRet (p1 := 68) (τ := 3) (ok_zconst dX12_isNamed_67 (.head _) ⟨by decide, by decide⟩) rfl (by decide) dX12_isNamed_68)))
def mX12_isNamed : QM := qM [2, 0] sX12_isNamed
theorem MX12_isNamed : MetY YX12_isNamed yX12_isNamed (some .boolean) [2, 0] mX12_isNamed := metY_of rfl (by decide +kernel) (.inr (.inl ⟨rfl, rfl⟩)) (by decide) oX12_isNamed

abbrev YX12_nameHere : YT := (RX12, cX12_nameHere, 2, 1, 22, 0)
theorem cf_X12_nameHere : CF yX12_nameHere 0 := ⟨by decide +kernel, by decide +kernel, by decide +kernel⟩
def cX12_nameHere_1 : QC :=
 (cB qlt (eV 1) (eF 12 27 (eV 0)))
def bX12_nameHere_1 : QT :=
 (sIf (cE (eCallV 12 mX12_isNamed [(eV 0), (eV 1)])) (sRet (eA 40 (eF 12 42 (eV 0)) (eV 1))) sSkip)
def uX12_nameHere_1 : QT :=
 (sInc 1 1)
set_option maxRecDepth 100000 in
theorem obX12_nameHere_1 : OkS YX12_nameHere [(0, 2), (1, 0)] [(0, 2), (1, 0)] 10 [25] [(0, 2), (1, 0)] [31] [(0, 2), (1, 0)] [25] bX12_nameHere_1 := by
  unfold bX12_nameHere_1
  exact (okIf (Γ' := [(0, 2), (1, 0)]) (T := [18]) (F := [25]) (okCEf (p1 := 15) (okI (τ := 3) (okCallV (p1 := 12) (okCons (p1 := 11) (ok_aload_n dX12_nameHere_10 (.head _) rfl (.head _)) (okCons (p1 := 12) (ok_iload_n dX12_nameHere_11 (.head _) rfl (.tail _ (.head _)) t_0) okNil)) MX12_isNamed cf_X12_isNamed ci_12 rfl kc_X12_isNamed km_X12_220 ki_X12_isNamed kv_X12_isNamed kn_X12 (Nat.le_of_ble_eq_true rfl) (Nat.le_of_ble_eq_true rfl) dX12_nameHere_12 (.head _) (by decide) rfl (by decide)) t_3) (j_if_eq dX12_nameHere_15 rfl) (.head _) (.head _)) (one (okRet (p1 := 24) (τ := 0) (ok_iaload (.inr rfl) (p1 := 22) (p2 := 23) (okF (p1 := 19) (k := 42) (ok_aload_n dX12_nameHere_18 (.head _) rfl (.head _)) ci_12 (by decide) kf_X12_104 dX12_nameHere_19 (.head _) rfl rfl) (ok_iload_n dX12_nameHere_22 (.head _) rfl (.tail _ (.head _)) t_0) dX12_nameHere_23 (.head _)) rfl (by decide) dX12_nameHere_24)) (fun t ht => okSkip ht))
set_option maxRecDepth 100000 in
theorem ocX12_nameHere_1 : OkC YX12_nameHere [(0, 2), (1, 0)] 0 2 [10] [31] cX12_nameHere_1 := by
  unfold cX12_nameHere_1
  exact (okCBf (p1 := 3) (p2 := 7) (τa := 0) (τb := 0) (ok_iload_n dX12_nameHere_2 (.head _) rfl (.tail _ (.head _)) t_0) (okF (p1 := 4) (k := 27) (ok_aload_n dX12_nameHere_3 (.head _) rfl (.head _)) ci_12 (by decide) kf_X12_217 dX12_nameHere_4 (.head _) rfl rfl) (j_icmp_ge dX12_nameHere_7 rfl) nq_lt (.head _) (.head _))
set_option maxRecDepth 100000 in
theorem ouX12_nameHere_1 : ∀ t ∈ ([25] : List Nat), OkS YX12_nameHere [(0, 2), (1, 0)] [(0, 2), (1, 0)] t [2] [] [] [] [] uX12_nameHere_1 := by
  unfold uX12_nameHere_1
  exact (one (okEnd (p1 := 28) (tg := 2) (okInc (.tail _ (.head _)) dX12_nameHere_25 (by decide) (.head _) (by decide)) dX12_nameHere_28 rfl (.head _)))
def sX12_nameHere : QT :=
 (sSeq (sSeq (sSet 1 (eI 0))
 (sWhile cX12_nameHere_1 bX12_nameHere_1 uX12_nameHere_1))
 (sRet (eI (-1))))
set_option maxRecDepth 100000 in
theorem oX12_nameHere : OkS YX12_nameHere [(0, 2)] [(0, 2)] 0 [] [] [] [] [] sX12_nameHere := by
  unfold sX12_nameHere
  exact (okSeq (p1 := 31) (Γ1 := [(0, 2)]) (okWeak (Γ1 := [(0, 2), (1, 0)]) (okSeq (p1 := 2) (Γ1 := [(0, 2), (1, 0)]) (ok_istore_n (Γ' := [(0, 2), (1, 0)]) (p1 := 1) (τ := 0) (ok_iconst dX12_nameHere_0 (.head _) (irn (by decide) (by decide))) t_0 dX12_nameHere_1 rfl (by decide) (.head _) (by decide))
 (okWhile (T := [10]) (F := [31]) (Eb := [25]) ocX12_nameHere_1 (fun _ h => h) (one obX12_nameHere_1) ouX12_nameHere_1)) (by decide))
 (okRet (p1 := 32) (τ := 0) (ok_iconst dX12_nameHere_31 (.head _) (irn (by decide) (by decide))) rfl (by decide) dX12_nameHere_32))
def mX12_nameHere : QM := qM [2] sX12_nameHere
theorem MX12_nameHere : MetY YX12_nameHere yX12_nameHere (some .int) [2] mX12_nameHere := metY_of rfl (by decide +kernel) (.inl ⟨rfl, rfl⟩) (by decide) oX12_nameHere

abbrev YX12_newName : YT := (RX12, cX12_newName, 2, 3, 67, 9)
theorem cf_X12_newName : CF yX12_newName 1 := ⟨by decide +kernel, by decide +kernel, by decide +kernel⟩
def sX12_newName : QT :=
 (sSeq (sIf (cNot (cE (eCallV 12 mX12_isName [(eV 0)]))) (sDo (eCallV 12 mX12_fail [(eV 0), (eI 1)])) (sIf (cB qge (eCallV 12 mX12_nameHere [(eV 0)]) (eI 0)) (sDo (eCallV 12 mX12_fail [(eV 0), (eI 3)])) sSkip))
 (sSeq (sIf (cB qgt (eF 12 37 (eV 0)) (eI 0)) sRetV sSkip)
 (sSeq (sArr 40 (eF 12 25 (eV 0)) (eF 12 27 (eV 0)) (eF 12 33 (eV 0)))
 (sSeq (sArr 40 (eF 12 26 (eV 0)) (eF 12 27 (eV 0)) (e2 iS (eF 12 32 (eV 0)) (eF 12 33 (eV 0))))
 (sSeq (sArr 40 (eF 12 42 (eV 0)) (eF 12 27 (eV 0)) (eV 1))
 (sSeq (sPutC 12 27 (eV 0) iA (eI 1))
 (sSeq (sDo (eCallV 12 mX12_scan [(eV 0)]))
 sRetV)))))))
set_option maxRecDepth 100000 in
theorem oX12_newName : OkS YX12_newName [(0, 2), (1, 0)] [(0, 2), (1, 0)] 0 [] [] [] [] [] sX12_newName := by
  unfold sX12_newName
  exact (okSeq (p1 := 27) (Γ1 := [(0, 2), (1, 0)]) (okIf (Γ' := [(0, 2), (1, 0)]) (T := [7]) (F := [15]) (okNot (okCEt (p1 := 4) (okI (τ := 3) (okCallV (p1 := 1) (okCons (p1 := 1) (ok_aload_n dX12_newName_0 (.head _) rfl (.head _)) okNil) MX12_isName cf_X12_isName ci_12 rfl kc_X12_isName km_X12_223 ki_X12_isName kv_X12_isName kn_X12 (Nat.le_of_ble_eq_true rfl) (Nat.le_of_ble_eq_true rfl) dX12_newName_1 (.head _) (by decide) rfl (by decide)) t_3) (j_if_ne dX12_newName_4 rfl) (.head _) (.head _))) (one (okEnd (p1 := 12) (tg := 27) (okDoV (p1 := 9) (okCons (p1 := 8) (ok_aload_n dX12_newName_7 (.head _) rfl (.head _)) (okCons (p1 := 9) (ok_iconst dX12_newName_8 (.head _) (irn (by decide) (by decide))) okNil)) MX12_fail cf_X12_fail ci_12 rfl kc_X12_fail km_X12_207 ki_X12_fail kv_X12_fail kn_X12 (Nat.le_of_ble_eq_true rfl) (Nat.le_of_ble_eq_true rfl) dX12_newName_9 (.head _) rfl) dX12_newName_12 rfl (.head _))) (one (okIf (Γ' := [(0, 2), (1, 0)]) (T := [22]) (F := [27]) (okCZf (p1 := 19) (τa := 0) (okCallV (p1 := 16) (okCons (p1 := 16) (ok_aload_n dX12_newName_15 (.head _) rfl (.head _)) okNil) MX12_nameHere cf_X12_nameHere ci_12 rfl kc_X12_nameHere km_X12_227 ki_X12_nameHere kv_X12_nameHere kn_X12 (Nat.le_of_ble_eq_true rfl) (Nat.le_of_ble_eq_true rfl) dX12_newName_16 (.head _) (by decide) rfl (by decide)) (j_if_lt dX12_newName_19 rfl) nq_ge (.head _) (.head _)) (one (okDoV (p1 := 24) (okCons (p1 := 23) (ok_aload_n dX12_newName_22 (.head _) rfl (.head _)) (okCons (p1 := 24) (ok_iconst dX12_newName_23 (.head _) (irn (by decide) (by decide))) okNil)) MX12_fail cf_X12_fail ci_12 rfl kc_X12_fail km_X12_207 ki_X12_fail kv_X12_fail kn_X12 (Nat.le_of_ble_eq_true rfl) (Nat.le_of_ble_eq_true rfl) dX12_newName_24 (.head _) rfl)) (fun t ht => okSkip ht))))
 (okSeq (p1 := 35) (Γ1 := [(0, 2), (1, 0)]) (okIf (Γ' := [(0, 2), (1, 0)]) (T := [34]) (F := [35]) (okCZf (p1 := 31) (τa := 0) (okF (p1 := 28) (k := 37) (ok_aload_n dX12_newName_27 (.head _) rfl (.head _)) ci_12 (by decide) kf_X12_195 dX12_newName_28 (.head _) rfl rfl) (j_if_le dX12_newName_31 rfl) nq_gt (.head _) (.head _)) (one (okRetV rfl dX12_newName_34)) (fun t ht => okSkip ht))
 (okSeq (p1 := 48) (Γ1 := [(0, 2), (1, 0)]) (okArr (p1 := 39) (p2 := 43) (p3 := 47) (by decide) (okF (p1 := 36) (k := 25) (ok_aload_n dX12_newName_35 (.head _) rfl (.head _)) ci_12 (by decide) kf_X12_87 dX12_newName_36 (.head _) rfl rfl) (okF (p1 := 40) (k := 27) (ok_aload_n dX12_newName_39 (.head _) rfl (.head _)) ci_12 (by decide) kf_X12_217 dX12_newName_40 (.head _) rfl rfl) (okF (p1 := 44) (k := 33) (ok_aload_n dX12_newName_43 (.head _) rfl (.head _)) ci_12 (by decide) kf_X12_155 dX12_newName_44 (.head _) rfl rfl) dX12_newName_47 (.head _))
 (okSeq (p1 := 66) (Γ1 := [(0, 2), (1, 0)]) (okArr (p1 := 52) (p2 := 56) (p3 := 65) (by decide) (okF (p1 := 49) (k := 26) (ok_aload_n dX12_newName_48 (.head _) rfl (.head _)) ci_12 (by decide) kf_X12_90 dX12_newName_49 (.head _) rfl rfl) (okF (p1 := 53) (k := 27) (ok_aload_n dX12_newName_52 (.head _) rfl (.head _)) ci_12 (by decide) kf_X12_217 dX12_newName_53 (.head _) rfl rfl) (okE2 (p1 := 60) (p2 := 64) (τa := 0) (τb := 0) (okF (p1 := 57) (k := 32) (ok_aload_n dX12_newName_56 (.head _) rfl (.head _)) ci_12 (by decide) kf_X12_152 dX12_newName_57 (.head _) rfl rfl) (okF (p1 := 61) (k := 33) (ok_aload_n dX12_newName_60 (.head _) rfl (.head _)) ci_12 (by decide) kf_X12_155 dX12_newName_61 (.head _) rfl rfl) (s_isub dX12_newName_64 (.head _))) dX12_newName_65 (.head _))
 (okSeq (p1 := 76) (Γ1 := [(0, 2), (1, 0)]) (okArr (p1 := 70) (p2 := 74) (p3 := 75) (by decide) (okF (p1 := 67) (k := 42) (ok_aload_n dX12_newName_66 (.head _) rfl (.head _)) ci_12 (by decide) kf_X12_104 dX12_newName_67 (.head _) rfl rfl) (okF (p1 := 71) (k := 27) (ok_aload_n dX12_newName_70 (.head _) rfl (.head _)) ci_12 (by decide) kf_X12_217 dX12_newName_71 (.head _) rfl rfl) (ok_iload_n dX12_newName_74 (.head _) rfl (.tail _ (.head _)) t_0) dX12_newName_75 (.head _))
 (okSeq (p1 := 86) (Γ1 := [(0, 2), (1, 0)]) (okPutC (p1 := 77) (p2 := 82) (p3 := 83) (k := 27) (τ := 0) (τb := 0) (ok_aload_n dX12_newName_76 (.head _) rfl (.head _)) dX12_newName_77 dX12_newName_78 (ok_iconst dX12_newName_81 (.head _) (irn (by decide) (by decide))) (s_iadd dX12_newName_82 (.head _)) rfl ci_12 (by decide) kf_X12_217 rfl (fun z _ => qfit_int z) dX12_newName_83 (.head _) rfl)
 (okSeq (p1 := 90) (Γ1 := [(0, 2), (1, 0)]) (okDoV (p1 := 87) (okCons (p1 := 87) (ok_aload_n dX12_newName_86 (.head _) rfl (.head _)) okNil) MX12_scan cf_X12_scan ci_12 rfl kc_X12_scan km_X12_204 ki_X12_scan kv_X12_scan kn_X12 (Nat.le_of_ble_eq_true rfl) (Nat.le_of_ble_eq_true rfl) dX12_newName_87 (.head _) rfl)
 (okRetV rfl dX12_newName_90))))))))
def mX12_newName : QM := qM [2, 0] sX12_newName
theorem MX12_newName : MetY YX12_newName yX12_newName none [2, 0] mX12_newName := metY_of rfl (by decide +kernel) (.inr (.inr (.inr (.inl ⟨rfl, rfl⟩)))) (by decide) oX12_newName

abbrev YX12_readArchive : YT := (RX12, cX12_readArchive, 3, 4, 90, 9)
theorem cf_X12_readArchive : CF yX12_readArchive 1 := ⟨by decide +kernel, by decide +kernel, by decide +kernel⟩
def sX12_readArchive : QT :=
 (sSeq (sIf (cB qeq (eA 40 (eF 12 3 (eV 0)) (eV 1)) (eI 4)) (sDo (eCallV 12 mX12_fail [(eV 0), (eI 4)])) sSkip)
 (sSeq (sIf (cB qgt (eF 12 37 (eV 0)) (eI 0)) sRetV sSkip)
 (sSeq (sDo (eCallV 12 mX12_scan [(eV 0)]))
 (sSeq (sSet 2 (eCall mX12_own [(eV 1), (eA 40 (eF 12 3 (eV 0)) (eV 1))]))
 (sSeq (sArr 40 (eF 12 13 (eV 0)) (eV 2) (eIf (cE (eCallV 12 mX12_isWord [(eV 0), (eI 15)])) (eI 0) (eIf (cE (eCallV 12 mX12_isWord [(eV 0), (eI 4)])) (eI 1) (eIf (cE (eCallV 12 mX12_isWord [(eV 0), (eI 3)])) (eI 2) (eI 3)))))
 (sSeq (sIf (cAnd (cB qeq (eA 40 (eF 12 13 (eV 0)) (eV 2)) (eI 3)) (cNot (cE (eCallV 12 mX12_isWord [(eV 0), (eI 16)])))) (sDo (eCallV 12 mX12_fail [(eV 0), (eI 1)])) sSkip)
 (sSeq (sIf (cB qgt (eF 12 37 (eV 0)) (eI 0)) sRetV sSkip)
 (sSeq (sDo (eCallV 12 mX12_scan [(eV 0)]))
 (sSeq (sArr 40 (eF 12 14 (eV 0)) (eV 2) (eCallV 12 mX12_numeral [(eV 0), (eI 1), (eI 12)]))
 (sSeq (sDo (eCallV 12 mX12_needWord [(eV 0), (eI 6)]))
 (sSeq (sArr 40 (eF 12 15 (eV 0)) (eV 2) (eCallV 12 mX12_numeral [(eV 0), (eI 1), (eI 30)]))
 (sSeq (sDo (eCallV 12 mX12_needWord [(eV 0), (eI 7)]))
 (sSeq (sArr 40 (eF 12 16 (eV 0)) (eV 2) (eCallV 12 mX12_numeral [(eV 0), (eI 0), (eI 9)]))
 (sSeq (sArrC 40 (eF 12 3 (eV 0)) (eV 1) iA (eI 1))
 sRetV))))))))))))))
set_option maxRecDepth 100000 in
theorem oX12_readArchive : OkS YX12_readArchive [(0, 2), (1, 0)] [(0, 2), (1, 0), (2, 0)] 0 [] [] [] [] [] sX12_readArchive := by
  unfold sX12_readArchive
  exact (okSeq (p1 := 15) (Γ1 := [(0, 2), (1, 0)]) (okIf (Γ' := [(0, 2), (1, 0)]) (T := [10]) (F := [15]) (okCBf (p1 := 6) (p2 := 7) (τa := 0) (τb := 0) (ok_iaload (.inr rfl) (p1 := 4) (p2 := 5) (okF (p1 := 1) (k := 3) (ok_aload_n dX12_readArchive_0 (.head _) rfl (.head _)) ci_12 (by decide) kf_X12_20 dX12_readArchive_1 (.head _) rfl rfl) (ok_iload_n dX12_readArchive_4 (.head _) rfl (.tail _ (.head _)) t_0) dX12_readArchive_5 (.head _)) (ok_iconst dX12_readArchive_6 (.head _) (irn (by decide) (by decide))) (j_icmp_ne dX12_readArchive_7 rfl) nq_eq (.head _) (.head _)) (one (okDoV (p1 := 12) (okCons (p1 := 11) (ok_aload_n dX12_readArchive_10 (.head _) rfl (.head _)) (okCons (p1 := 12) (ok_iconst dX12_readArchive_11 (.head _) (irn (by decide) (by decide))) okNil)) MX12_fail cf_X12_fail ci_12 rfl kc_X12_fail km_X12_207 ki_X12_fail kv_X12_fail kn_X12 (Nat.le_of_ble_eq_true rfl) (Nat.le_of_ble_eq_true rfl) dX12_readArchive_12 (.head _) rfl)) (fun t ht => okSkip ht))
 (okSeq (p1 := 23) (Γ1 := [(0, 2), (1, 0)]) (okIf (Γ' := [(0, 2), (1, 0)]) (T := [22]) (F := [23]) (okCZf (p1 := 19) (τa := 0) (okF (p1 := 16) (k := 37) (ok_aload_n dX12_readArchive_15 (.head _) rfl (.head _)) ci_12 (by decide) kf_X12_195 dX12_readArchive_16 (.head _) rfl rfl) (j_if_le dX12_readArchive_19 rfl) nq_gt (.head _) (.head _)) (one (okRetV rfl dX12_readArchive_22)) (fun t ht => okSkip ht))
 (okSeq (p1 := 27) (Γ1 := [(0, 2), (1, 0)]) (okDoV (p1 := 24) (okCons (p1 := 24) (ok_aload_n dX12_readArchive_23 (.head _) rfl (.head _)) okNil) MX12_scan cf_X12_scan ci_12 rfl kc_X12_scan km_X12_204 ki_X12_scan kv_X12_scan kn_X12 (Nat.le_of_ble_eq_true rfl) (Nat.le_of_ble_eq_true rfl) dX12_readArchive_24 (.head _) rfl)
 (okSeq (p1 := 38) (Γ1 := [(0, 2), (1, 0), (2, 0)]) (ok_istore_n (Γ' := [(0, 2), (1, 0), (2, 0)]) (p1 := 37) (τ := 0) (okCallS (p1 := 34) (okCons (p1 := 28) (ok_iload_n dX12_readArchive_27 (.head _) rfl (.tail _ (.head _)) t_0) (okCons (p1 := 34) (ok_iaload (.inr rfl) (p1 := 32) (p2 := 33) (okF (p1 := 29) (k := 3) (ok_aload_n dX12_readArchive_28 (.head _) rfl (.head _)) ci_12 (by decide) kf_X12_20 dX12_readArchive_29 (.head _) rfl rfl) (ok_iload_n dX12_readArchive_32 (.head _) rfl (.tail _ (.head _)) t_0) dX12_readArchive_33 (.head _)) okNil)) MX12_own cf_X12_own rfl kc_X12_own km_X12_142 ks_X12_own kn_X12 (Nat.le_of_ble_eq_true rfl) (Nat.le_of_ble_eq_true rfl) dX12_readArchive_34 (.head _) (by decide) rfl (by decide)) t_0 dX12_readArchive_37 rfl (by decide) (.head _) (by decide))
 (okSeq (p1 := 82) (Γ1 := [(0, 2), (1, 0), (2, 0)]) (okArr (p1 := 42) (p2 := 43) (p3 := 81) (by decide) (okF (p1 := 39) (k := 13) (ok_aload_n dX12_readArchive_38 (.head _) rfl (.head _)) ci_12 (by decide) kf_X12_50 dX12_readArchive_39 (.head _) rfl rfl) (ok_iload_n dX12_readArchive_42 (.head _) rfl (.tail _ (.tail _ (.head _))) t_0) (okIfE (pt := 52) (pf := 56) (p1 := 53) (pe := 81) (okCEf (p1 := 49) (okI (τ := 3) (okCallV (p1 := 46) (okCons (p1 := 44) (ok_aload_n dX12_readArchive_43 (.head _) rfl (.head _)) (okCons (p1 := 46) (ok_bipush dX12_readArchive_44 (.head _) (irn4 (by decide) (by decide))) okNil)) MX12_isWord cf_X12_isWord ci_12 rfl kc_X12_isWord km_X12_210 ki_X12_isWord kv_X12_isWord kn_X12 (Nat.le_of_ble_eq_true rfl) (Nat.le_of_ble_eq_true rfl) dX12_readArchive_46 (.head _) (by decide) rfl (by decide)) t_3) (j_if_eq dX12_readArchive_49 rfl) (.head _) (.head _)) (ok_iconst dX12_readArchive_52 (.head _) (irn (by decide) (by decide))) dX12_readArchive_53 rfl (.head _) (okIfE (pt := 64) (pf := 68) (p1 := 65) (pe := 81) (okCEf (p1 := 61) (okI (τ := 3) (okCallV (p1 := 58) (okCons (p1 := 57) (ok_aload_n dX12_readArchive_56 (.head _) rfl (.head _)) (okCons (p1 := 58) (ok_iconst dX12_readArchive_57 (.head _) (irn (by decide) (by decide))) okNil)) MX12_isWord cf_X12_isWord ci_12 rfl kc_X12_isWord km_X12_210 ki_X12_isWord kv_X12_isWord kn_X12 (Nat.le_of_ble_eq_true rfl) (Nat.le_of_ble_eq_true rfl) dX12_readArchive_58 (.head _) (by decide) rfl (by decide)) t_3) (j_if_eq dX12_readArchive_61 rfl) (.head _) (.head _)) (ok_iconst dX12_readArchive_64 (.head _) (irn (by decide) (by decide))) dX12_readArchive_65 rfl (.head _) (okIfE (pt := 76) (pf := 80) (p1 := 77) (pe := 81) (okCEf (p1 := 73) (okI (τ := 3) (okCallV (p1 := 70) (okCons (p1 := 69) (ok_aload_n dX12_readArchive_68 (.head _) rfl (.head _)) (okCons (p1 := 70) (ok_iconst dX12_readArchive_69 (.head _) (irn (by decide) (by decide))) okNil)) MX12_isWord cf_X12_isWord ci_12 rfl kc_X12_isWord km_X12_210 ki_X12_isWord kv_X12_isWord kn_X12 (Nat.le_of_ble_eq_true rfl) (Nat.le_of_ble_eq_true rfl) dX12_readArchive_70 (.head _) (by decide) rfl (by decide)) t_3) (j_if_eq dX12_readArchive_73 rfl) (.head _) (.head _)) (ok_iconst dX12_readArchive_76 (.head _) (irn (by decide) (by decide))) dX12_readArchive_77 rfl (.head _) (ok_iconst dX12_readArchive_80 (.head _) (irn (by decide) (by decide)))))) dX12_readArchive_81 (.head _))
 (okSeq (p1 := 106) (Γ1 := [(0, 2), (1, 0), (2, 0)]) (okIf (Γ' := [(0, 2), (1, 0), (2, 0)]) (T := [101]) (F := [106]) (okAnd (p1 := 92) (okCBf (p1 := 88) (p2 := 89) (τa := 0) (τb := 0) (ok_iaload (.inr rfl) (p1 := 86) (p2 := 87) (okF (p1 := 83) (k := 13) (ok_aload_n dX12_readArchive_82 (.head _) rfl (.head _)) ci_12 (by decide) kf_X12_50 dX12_readArchive_83 (.head _) rfl rfl) (ok_iload_n dX12_readArchive_86 (.head _) rfl (.tail _ (.tail _ (.head _))) t_0) dX12_readArchive_87 (.head _)) (ok_iconst dX12_readArchive_88 (.head _) (irn (by decide) (by decide))) (j_icmp_ne dX12_readArchive_89 rfl) nq_eq (.head _) (.head _)) (okNot (okCEt (p1 := 98) (okI (τ := 3) (okCallV (p1 := 95) (okCons (p1 := 93) (ok_aload_n dX12_readArchive_92 (.head _) rfl (.head _)) (okCons (p1 := 95) (ok_bipush dX12_readArchive_93 (.head _) (irn4 (by decide) (by decide))) okNil)) MX12_isWord cf_X12_isWord ci_12 rfl kc_X12_isWord km_X12_210 ki_X12_isWord kv_X12_isWord kn_X12 (Nat.le_of_ble_eq_true rfl) (Nat.le_of_ble_eq_true rfl) dX12_readArchive_95 (.head _) (by decide) rfl (by decide)) t_3) (j_if_ne dX12_readArchive_98 rfl) (.head _) (.head _)))) (one (okDoV (p1 := 103) (okCons (p1 := 102) (ok_aload_n dX12_readArchive_101 (.head _) rfl (.head _)) (okCons (p1 := 103) (ok_iconst dX12_readArchive_102 (.head _) (irn (by decide) (by decide))) okNil)) MX12_fail cf_X12_fail ci_12 rfl kc_X12_fail km_X12_207 ki_X12_fail kv_X12_fail kn_X12 (Nat.le_of_ble_eq_true rfl) (Nat.le_of_ble_eq_true rfl) dX12_readArchive_103 (.head _) rfl)) (fun t ht => okSkip ht))
 (okSeq (p1 := 114) (Γ1 := [(0, 2), (1, 0), (2, 0)]) (okIf (Γ' := [(0, 2), (1, 0), (2, 0)]) (T := [113]) (F := [114]) (okCZf (p1 := 110) (τa := 0) (okF (p1 := 107) (k := 37) (ok_aload_n dX12_readArchive_106 (.head _) rfl (.head _)) ci_12 (by decide) kf_X12_195 dX12_readArchive_107 (.head _) rfl rfl) (j_if_le dX12_readArchive_110 rfl) nq_gt (.head _) (.head _)) (one (okRetV rfl dX12_readArchive_113)) (fun t ht => okSkip ht))
 (okSeq (p1 := 118) (Γ1 := [(0, 2), (1, 0), (2, 0)]) (okDoV (p1 := 115) (okCons (p1 := 115) (ok_aload_n dX12_readArchive_114 (.head _) rfl (.head _)) okNil) MX12_scan cf_X12_scan ci_12 rfl kc_X12_scan km_X12_204 ki_X12_scan kv_X12_scan kn_X12 (Nat.le_of_ble_eq_true rfl) (Nat.le_of_ble_eq_true rfl) dX12_readArchive_115 (.head _) rfl)
 (okSeq (p1 := 131) (Γ1 := [(0, 2), (1, 0), (2, 0)]) (okArr (p1 := 122) (p2 := 123) (p3 := 130) (by decide) (okF (p1 := 119) (k := 14) (ok_aload_n dX12_readArchive_118 (.head _) rfl (.head _)) ci_12 (by decide) kf_X12_53 dX12_readArchive_119 (.head _) rfl rfl) (ok_iload_n dX12_readArchive_122 (.head _) rfl (.tail _ (.tail _ (.head _))) t_0) (okCallV (p1 := 127) (okCons (p1 := 124) (ok_aload_n dX12_readArchive_123 (.head _) rfl (.head _)) (okCons (p1 := 125) (ok_iconst dX12_readArchive_124 (.head _) (irn (by decide) (by decide))) (okCons (p1 := 127) (ok_bipush dX12_readArchive_125 (.head _) (irn4 (by decide) (by decide))) okNil))) MX12_numeral cf_X12_numeral ci_12 rfl kc_X12_numeral km_X12_234 ki_X12_numeral kv_X12_numeral kn_X12 (Nat.le_of_ble_eq_true rfl) (Nat.le_of_ble_eq_true rfl) dX12_readArchive_127 (.head _) (by decide) rfl (by decide)) dX12_readArchive_130 (.head _))
 (okSeq (p1 := 137) (Γ1 := [(0, 2), (1, 0), (2, 0)]) (okDoV (p1 := 134) (okCons (p1 := 132) (ok_aload_n dX12_readArchive_131 (.head _) rfl (.head _)) (okCons (p1 := 134) (ok_bipush dX12_readArchive_132 (.head _) (irn4 (by decide) (by decide))) okNil)) MX12_needWord cf_X12_needWord ci_12 rfl kc_X12_needWord km_X12_231 ki_X12_needWord kv_X12_needWord kn_X12 (Nat.le_of_ble_eq_true rfl) (Nat.le_of_ble_eq_true rfl) dX12_readArchive_134 (.head _) rfl)
 (okSeq (p1 := 150) (Γ1 := [(0, 2), (1, 0), (2, 0)]) (okArr (p1 := 141) (p2 := 142) (p3 := 149) (by decide) (okF (p1 := 138) (k := 15) (ok_aload_n dX12_readArchive_137 (.head _) rfl (.head _)) ci_12 (by decide) kf_X12_56 dX12_readArchive_138 (.head _) rfl rfl) (ok_iload_n dX12_readArchive_141 (.head _) rfl (.tail _ (.tail _ (.head _))) t_0) (okCallV (p1 := 146) (okCons (p1 := 143) (ok_aload_n dX12_readArchive_142 (.head _) rfl (.head _)) (okCons (p1 := 144) (ok_iconst dX12_readArchive_143 (.head _) (irn (by decide) (by decide))) (okCons (p1 := 146) (ok_bipush dX12_readArchive_144 (.head _) (irn4 (by decide) (by decide))) okNil))) MX12_numeral cf_X12_numeral ci_12 rfl kc_X12_numeral km_X12_234 ki_X12_numeral kv_X12_numeral kn_X12 (Nat.le_of_ble_eq_true rfl) (Nat.le_of_ble_eq_true rfl) dX12_readArchive_146 (.head _) (by decide) rfl (by decide)) dX12_readArchive_149 (.head _))
 (okSeq (p1 := 156) (Γ1 := [(0, 2), (1, 0), (2, 0)]) (okDoV (p1 := 153) (okCons (p1 := 151) (ok_aload_n dX12_readArchive_150 (.head _) rfl (.head _)) (okCons (p1 := 153) (ok_bipush dX12_readArchive_151 (.head _) (irn4 (by decide) (by decide))) okNil)) MX12_needWord cf_X12_needWord ci_12 rfl kc_X12_needWord km_X12_231 ki_X12_needWord kv_X12_needWord kn_X12 (Nat.le_of_ble_eq_true rfl) (Nat.le_of_ble_eq_true rfl) dX12_readArchive_153 (.head _) rfl)
 (okSeq (p1 := 169) (Γ1 := [(0, 2), (1, 0), (2, 0)]) (okArr (p1 := 160) (p2 := 161) (p3 := 168) (by decide) (okF (p1 := 157) (k := 16) (ok_aload_n dX12_readArchive_156 (.head _) rfl (.head _)) ci_12 (by decide) kf_X12_59 dX12_readArchive_157 (.head _) rfl rfl) (ok_iload_n dX12_readArchive_160 (.head _) rfl (.tail _ (.tail _ (.head _))) t_0) (okCallV (p1 := 165) (okCons (p1 := 162) (ok_aload_n dX12_readArchive_161 (.head _) rfl (.head _)) (okCons (p1 := 163) (ok_iconst dX12_readArchive_162 (.head _) (irn (by decide) (by decide))) (okCons (p1 := 165) (ok_bipush dX12_readArchive_163 (.head _) (irn4 (by decide) (by decide))) okNil))) MX12_numeral cf_X12_numeral ci_12 rfl kc_X12_numeral km_X12_234 ki_X12_numeral kv_X12_numeral kn_X12 (Nat.le_of_ble_eq_true rfl) (Nat.le_of_ble_eq_true rfl) dX12_readArchive_165 (.head _) (by decide) rfl (by decide)) dX12_readArchive_168 (.head _))
 (okSeq (p1 := 179) (Γ1 := [(0, 2), (1, 0), (2, 0)]) (okArrC (p1 := 173) (p2 := 174) (p3 := 177) (p4 := 178) (τb := 0) (by decide) (okF (p1 := 170) (k := 3) (ok_aload_n dX12_readArchive_169 (.head _) rfl (.head _)) ci_12 (by decide) kf_X12_20 dX12_readArchive_170 (.head _) rfl rfl) (ok_iload_n dX12_readArchive_173 (.head _) rfl (.tail _ (.head _)) t_0) dX12_readArchive_174 dX12_readArchive_175 (ok_iconst dX12_readArchive_176 (.head _) (irn (by decide) (by decide))) (s_iadd dX12_readArchive_177 (.head _)) dX12_readArchive_178 (.head _))
 (okRetV rfl dX12_readArchive_179)))))))))))))))
def mX12_readArchive : QM := qM [2, 0] sX12_readArchive
theorem MX12_readArchive : MetY YX12_readArchive yX12_readArchive none [2, 0] mX12_readArchive := metY_of rfl (by decide +kernel) (.inr (.inr (.inr (.inl ⟨rfl, rfl⟩)))) (by decide) oX12_readArchive

abbrev YX12_readForecast : YT := (RX12, cX12_readForecast, 4, 4, 90, 9)
theorem cf_X12_readForecast : CF yX12_readForecast 1 := ⟨by decide +kernel, by decide +kernel, by decide +kernel⟩
def sX12_readForecast : QT :=
 (sSeq (sDo (eCallV 12 mX12_scan [(eV 0)]))
 (sSeq (sSet 2 (eIf (cE (eCallV 12 mX12_isName [(eV 0)])) (eCallV 12 mX12_nameHere [(eV 0)]) (eI (-1))))
 (sSeq (sIf (cNot (cE (eCallV 12 mX12_isName [(eV 0)]))) (sDo (eCallV 12 mX12_fail [(eV 0), (eI 1)])) (sIf (cOr (cNot (cE (eCall mX12_isIn [(eV 2), (eI 0), (eI 3)]))) (cE (eA 44 (eF 12 17 (eV 0)) (eCall mX12_own [(eV 1), (eV 2)])))) (sDo (eCallV 12 mX12_fail [(eV 0), (eI 3)])) sSkip))
 (sSeq (sIf (cB qgt (eF 12 37 (eV 0)) (eI 0)) sRetV sSkip)
 (sSeq (sSet 3 (eCall mX12_own [(eV 1), (eV 2)]))
 (sSeq (sArr 44 (eF 12 17 (eV 0)) (eV 3) (eI 1))
 (sSeq (sDo (eCallV 12 mX12_scan [(eV 0)]))
 (sSeq (sDo (eCallV 12 mX12_needWord [(eV 0), (eI 9)]))
 (sSeq (sArr 40 (eF 12 18 (eV 0)) (eV 3) (eCallV 12 mX12_numeral [(eV 0), (eI 2), (eI 24)]))
 (sSeq (sDo (eCallV 12 mX12_needWord [(eV 0), (eI 6)]))
 (sSeq (sArr 40 (eF 12 19 (eV 0)) (eV 3) (eCallV 12 mX12_numeral [(eV 0), (eI 0), (eI 16)]))
 (sSeq (sArr 40 (eF 12 20 (eV 0)) (eV 3) (eCallV 12 mX12_numeral [(eV 0), (eI 0), (eI 16)]))
 (sSeq (sArr 40 (eF 12 21 (eV 0)) (eV 3) (eCallV 12 mX12_numeral [(eV 0), (eI 0), (eI 16)]))
 (sSeq (sDo (eCallV 12 mX12_needWord [(eV 0), (eI 10)]))
 (sSeq (sArr 40 (eF 12 22 (eV 0)) (eV 3) (eCallV 12 mX12_numeral [(eV 0), (eI 1), (eI 9)]))
 sRetV)))))))))))))))
set_option maxRecDepth 100000 in
theorem oX12_readForecast : OkS YX12_readForecast [(0, 2), (1, 0)] [(0, 2), (1, 0), (2, 0), (3, 0)] 0 [] [] [] [] [] sX12_readForecast := by
  unfold sX12_readForecast
  exact (okSeq (p1 := 4) (Γ1 := [(0, 2), (1, 0)]) (okDoV (p1 := 1) (okCons (p1 := 1) (ok_aload_n dX12_readForecast_0 (.head _) rfl (.head _)) okNil) MX12_scan cf_X12_scan ci_12 rfl kc_X12_scan km_X12_204 ki_X12_scan kv_X12_scan kn_X12 (Nat.le_of_ble_eq_true rfl) (Nat.le_of_ble_eq_true rfl) dX12_readForecast_1 (.head _) rfl)
 (okSeq (p1 := 20) (Γ1 := [(0, 2), (1, 0), (2, 0)]) (ok_istore_n (Γ' := [(0, 2), (1, 0), (2, 0)]) (p1 := 19) (τ := 0) (okIfE (pt := 11) (pf := 18) (p1 := 15) (pe := 19) (okCEf (p1 := 8) (okI (τ := 3) (okCallV (p1 := 5) (okCons (p1 := 5) (ok_aload_n dX12_readForecast_4 (.head _) rfl (.head _)) okNil) MX12_isName cf_X12_isName ci_12 rfl kc_X12_isName km_X12_223 ki_X12_isName kv_X12_isName kn_X12 (Nat.le_of_ble_eq_true rfl) (Nat.le_of_ble_eq_true rfl) dX12_readForecast_5 (.head _) (by decide) rfl (by decide)) t_3) (j_if_eq dX12_readForecast_8 rfl) (.head _) (.head _)) (okCallV (p1 := 12) (okCons (p1 := 12) (ok_aload_n dX12_readForecast_11 (.head _) rfl (.head _)) okNil) MX12_nameHere cf_X12_nameHere ci_12 rfl kc_X12_nameHere km_X12_227 ki_X12_nameHere kv_X12_nameHere kn_X12 (Nat.le_of_ble_eq_true rfl) (Nat.le_of_ble_eq_true rfl) dX12_readForecast_12 (.head _) (by decide) rfl (by decide)) dX12_readForecast_15 rfl (.head _) (ok_iconst dX12_readForecast_18 (.head _) (irn (by decide) (by decide)))) t_0 dX12_readForecast_19 rfl (by decide) (.head _) (by decide))
 (okSeq (p1 := 65) (Γ1 := [(0, 2), (1, 0), (2, 0)]) (okIf (Γ' := [(0, 2), (1, 0), (2, 0)]) (T := [27]) (F := [35]) (okNot (okCEt (p1 := 24) (okI (τ := 3) (okCallV (p1 := 21) (okCons (p1 := 21) (ok_aload_n dX12_readForecast_20 (.head _) rfl (.head _)) okNil) MX12_isName cf_X12_isName ci_12 rfl kc_X12_isName km_X12_223 ki_X12_isName kv_X12_isName kn_X12 (Nat.le_of_ble_eq_true rfl) (Nat.le_of_ble_eq_true rfl) dX12_readForecast_21 (.head _) (by decide) rfl (by decide)) t_3) (j_if_ne dX12_readForecast_24 rfl) (.head _) (.head _))) (one (okEnd (p1 := 32) (tg := 65) (okDoV (p1 := 29) (okCons (p1 := 28) (ok_aload_n dX12_readForecast_27 (.head _) rfl (.head _)) (okCons (p1 := 29) (ok_iconst dX12_readForecast_28 (.head _) (irn (by decide) (by decide))) okNil)) MX12_fail cf_X12_fail ci_12 rfl kc_X12_fail km_X12_207 ki_X12_fail kv_X12_fail kn_X12 (Nat.le_of_ble_eq_true rfl) (Nat.le_of_ble_eq_true rfl) dX12_readForecast_29 (.head _) rfl) dX12_readForecast_32 rfl (.head _))) (one (okIf (Γ' := [(0, 2), (1, 0), (2, 0)]) (T := [60]) (F := [65]) (okOr (p1 := 47) (okNot (okCEf (p1 := 44) (okI (τ := 3) (okCallS (p1 := 41) (okCons (p1 := 37) (okL (p1 := 36) (ok_iload_n dX12_readForecast_35 (.head _) rfl (.tail _ (.tail _ (.head _))) t_0) dX12_readForecast_36 (.head _)) (okCons (p1 := 38) (ok_lconst0 dX12_readForecast_37 (.head _)) (okCons (p1 := 41) (ok_ldc2 kj_X12_258 (by decide) dX12_readForecast_38 (.head _)) okNil))) MX12_isIn cf_X12_isIn rfl kc_X12_isIn km_X12_213 ks_X12_isIn kn_X12 (Nat.le_of_ble_eq_true rfl) (Nat.le_of_ble_eq_true rfl) dX12_readForecast_41 (.head _) (by decide) rfl (by decide)) t_3) (j_if_eq dX12_readForecast_44 rfl) (.head _) (.head _))) (okCEf (p1 := 57) (okI (τ := 3) (ok_zaload (.inr rfl) (p1 := 51) (p2 := 56) (okF (p1 := 48) (k := 17) (ok_aload_n dX12_readForecast_47 (.head _) rfl (.head _)) ci_12 (by decide) kf_X12_62 dX12_readForecast_48 (.head _) rfl rfl) (okCallS (p1 := 53) (okCons (p1 := 52) (ok_iload_n dX12_readForecast_51 (.head _) rfl (.tail _ (.head _)) t_0) (okCons (p1 := 53) (ok_iload_n dX12_readForecast_52 (.head _) rfl (.tail _ (.tail _ (.head _))) t_0) okNil)) MX12_own cf_X12_own rfl kc_X12_own km_X12_142 ks_X12_own kn_X12 (Nat.le_of_ble_eq_true rfl) (Nat.le_of_ble_eq_true rfl) dX12_readForecast_53 (.head _) (by decide) rfl (by decide)) dX12_readForecast_56 (.head _)) t_3) (j_if_eq dX12_readForecast_57 rfl) (.head _) (.head _))) (one (okDoV (p1 := 62) (okCons (p1 := 61) (ok_aload_n dX12_readForecast_60 (.head _) rfl (.head _)) (okCons (p1 := 62) (ok_iconst dX12_readForecast_61 (.head _) (irn (by decide) (by decide))) okNil)) MX12_fail cf_X12_fail ci_12 rfl kc_X12_fail km_X12_207 ki_X12_fail kv_X12_fail kn_X12 (Nat.le_of_ble_eq_true rfl) (Nat.le_of_ble_eq_true rfl) dX12_readForecast_62 (.head _) rfl)) (fun t ht => okSkip ht))))
 (okSeq (p1 := 73) (Γ1 := [(0, 2), (1, 0), (2, 0)]) (okIf (Γ' := [(0, 2), (1, 0), (2, 0)]) (T := [72]) (F := [73]) (okCZf (p1 := 69) (τa := 0) (okF (p1 := 66) (k := 37) (ok_aload_n dX12_readForecast_65 (.head _) rfl (.head _)) ci_12 (by decide) kf_X12_195 dX12_readForecast_66 (.head _) rfl rfl) (j_if_le dX12_readForecast_69 rfl) nq_gt (.head _) (.head _)) (one (okRetV rfl dX12_readForecast_72)) (fun t ht => okSkip ht))
 (okSeq (p1 := 79) (Γ1 := [(0, 2), (1, 0), (2, 0), (3, 0)]) (ok_istore_n (Γ' := [(0, 2), (1, 0), (2, 0), (3, 0)]) (p1 := 78) (τ := 0) (okCallS (p1 := 75) (okCons (p1 := 74) (ok_iload_n dX12_readForecast_73 (.head _) rfl (.tail _ (.head _)) t_0) (okCons (p1 := 75) (ok_iload_n dX12_readForecast_74 (.head _) rfl (.tail _ (.tail _ (.head _))) t_0) okNil)) MX12_own cf_X12_own rfl kc_X12_own km_X12_142 ks_X12_own kn_X12 (Nat.le_of_ble_eq_true rfl) (Nat.le_of_ble_eq_true rfl) dX12_readForecast_75 (.head _) (by decide) rfl (by decide)) t_0 dX12_readForecast_78 rfl (by decide) (.head _) (by decide))
 (okSeq (p1 := 86) (Γ1 := [(0, 2), (1, 0), (2, 0), (3, 0)]) (okArr (p1 := 83) (p2 := 84) (p3 := 85) (by decide) (okF (p1 := 80) (k := 17) (ok_aload_n dX12_readForecast_79 (.head _) rfl (.head _)) ci_12 (by decide) kf_X12_62 dX12_readForecast_80 (.head _) rfl rfl) (ok_iload_n dX12_readForecast_83 (.head _) rfl (.tail _ (.tail _ (.tail _ (.head _)))) t_0) (okI (τ := 3) (ok_zconst dX12_readForecast_84 (.head _) ⟨by decide, by decide⟩) t_3) dX12_readForecast_85 (.head _))
 (okSeq (p1 := 90) (Γ1 := [(0, 2), (1, 0), (2, 0), (3, 0)]) (okDoV (p1 := 87) (okCons (p1 := 87) (ok_aload_n dX12_readForecast_86 (.head _) rfl (.head _)) okNil) MX12_scan cf_X12_scan ci_12 rfl kc_X12_scan km_X12_204 ki_X12_scan kv_X12_scan kn_X12 (Nat.le_of_ble_eq_true rfl) (Nat.le_of_ble_eq_true rfl) dX12_readForecast_87 (.head _) rfl)
 (okSeq (p1 := 96) (Γ1 := [(0, 2), (1, 0), (2, 0), (3, 0)]) (okDoV (p1 := 93) (okCons (p1 := 91) (ok_aload_n dX12_readForecast_90 (.head _) rfl (.head _)) (okCons (p1 := 93) (ok_bipush dX12_readForecast_91 (.head _) (irn4 (by decide) (by decide))) okNil)) MX12_needWord cf_X12_needWord ci_12 rfl kc_X12_needWord km_X12_231 ki_X12_needWord kv_X12_needWord kn_X12 (Nat.le_of_ble_eq_true rfl) (Nat.le_of_ble_eq_true rfl) dX12_readForecast_93 (.head _) rfl)
 (okSeq (p1 := 109) (Γ1 := [(0, 2), (1, 0), (2, 0), (3, 0)]) (okArr (p1 := 100) (p2 := 101) (p3 := 108) (by decide) (okF (p1 := 97) (k := 18) (ok_aload_n dX12_readForecast_96 (.head _) rfl (.head _)) ci_12 (by decide) kf_X12_66 dX12_readForecast_97 (.head _) rfl rfl) (ok_iload_n dX12_readForecast_100 (.head _) rfl (.tail _ (.tail _ (.tail _ (.head _)))) t_0) (okCallV (p1 := 105) (okCons (p1 := 102) (ok_aload_n dX12_readForecast_101 (.head _) rfl (.head _)) (okCons (p1 := 103) (ok_iconst dX12_readForecast_102 (.head _) (irn (by decide) (by decide))) (okCons (p1 := 105) (ok_bipush dX12_readForecast_103 (.head _) (irn4 (by decide) (by decide))) okNil))) MX12_numeral cf_X12_numeral ci_12 rfl kc_X12_numeral km_X12_234 ki_X12_numeral kv_X12_numeral kn_X12 (Nat.le_of_ble_eq_true rfl) (Nat.le_of_ble_eq_true rfl) dX12_readForecast_105 (.head _) (by decide) rfl (by decide)) dX12_readForecast_108 (.head _))
 (okSeq (p1 := 115) (Γ1 := [(0, 2), (1, 0), (2, 0), (3, 0)]) (okDoV (p1 := 112) (okCons (p1 := 110) (ok_aload_n dX12_readForecast_109 (.head _) rfl (.head _)) (okCons (p1 := 112) (ok_bipush dX12_readForecast_110 (.head _) (irn4 (by decide) (by decide))) okNil)) MX12_needWord cf_X12_needWord ci_12 rfl kc_X12_needWord km_X12_231 ki_X12_needWord kv_X12_needWord kn_X12 (Nat.le_of_ble_eq_true rfl) (Nat.le_of_ble_eq_true rfl) dX12_readForecast_112 (.head _) rfl)
 (okSeq (p1 := 128) (Γ1 := [(0, 2), (1, 0), (2, 0), (3, 0)]) (okArr (p1 := 119) (p2 := 120) (p3 := 127) (by decide) (okF (p1 := 116) (k := 19) (ok_aload_n dX12_readForecast_115 (.head _) rfl (.head _)) ci_12 (by decide) kf_X12_69 dX12_readForecast_116 (.head _) rfl rfl) (ok_iload_n dX12_readForecast_119 (.head _) rfl (.tail _ (.tail _ (.tail _ (.head _)))) t_0) (okCallV (p1 := 124) (okCons (p1 := 121) (ok_aload_n dX12_readForecast_120 (.head _) rfl (.head _)) (okCons (p1 := 122) (ok_iconst dX12_readForecast_121 (.head _) (irn (by decide) (by decide))) (okCons (p1 := 124) (ok_bipush dX12_readForecast_122 (.head _) (irn4 (by decide) (by decide))) okNil))) MX12_numeral cf_X12_numeral ci_12 rfl kc_X12_numeral km_X12_234 ki_X12_numeral kv_X12_numeral kn_X12 (Nat.le_of_ble_eq_true rfl) (Nat.le_of_ble_eq_true rfl) dX12_readForecast_124 (.head _) (by decide) rfl (by decide)) dX12_readForecast_127 (.head _))
 (okSeq (p1 := 141) (Γ1 := [(0, 2), (1, 0), (2, 0), (3, 0)]) (okArr (p1 := 132) (p2 := 133) (p3 := 140) (by decide) (okF (p1 := 129) (k := 20) (ok_aload_n dX12_readForecast_128 (.head _) rfl (.head _)) ci_12 (by decide) kf_X12_72 dX12_readForecast_129 (.head _) rfl rfl) (ok_iload_n dX12_readForecast_132 (.head _) rfl (.tail _ (.tail _ (.tail _ (.head _)))) t_0) (okCallV (p1 := 137) (okCons (p1 := 134) (ok_aload_n dX12_readForecast_133 (.head _) rfl (.head _)) (okCons (p1 := 135) (ok_iconst dX12_readForecast_134 (.head _) (irn (by decide) (by decide))) (okCons (p1 := 137) (ok_bipush dX12_readForecast_135 (.head _) (irn4 (by decide) (by decide))) okNil))) MX12_numeral cf_X12_numeral ci_12 rfl kc_X12_numeral km_X12_234 ki_X12_numeral kv_X12_numeral kn_X12 (Nat.le_of_ble_eq_true rfl) (Nat.le_of_ble_eq_true rfl) dX12_readForecast_137 (.head _) (by decide) rfl (by decide)) dX12_readForecast_140 (.head _))
 (okSeq (p1 := 154) (Γ1 := [(0, 2), (1, 0), (2, 0), (3, 0)]) (okArr (p1 := 145) (p2 := 146) (p3 := 153) (by decide) (okF (p1 := 142) (k := 21) (ok_aload_n dX12_readForecast_141 (.head _) rfl (.head _)) ci_12 (by decide) kf_X12_75 dX12_readForecast_142 (.head _) rfl rfl) (ok_iload_n dX12_readForecast_145 (.head _) rfl (.tail _ (.tail _ (.tail _ (.head _)))) t_0) (okCallV (p1 := 150) (okCons (p1 := 147) (ok_aload_n dX12_readForecast_146 (.head _) rfl (.head _)) (okCons (p1 := 148) (ok_iconst dX12_readForecast_147 (.head _) (irn (by decide) (by decide))) (okCons (p1 := 150) (ok_bipush dX12_readForecast_148 (.head _) (irn4 (by decide) (by decide))) okNil))) MX12_numeral cf_X12_numeral ci_12 rfl kc_X12_numeral km_X12_234 ki_X12_numeral kv_X12_numeral kn_X12 (Nat.le_of_ble_eq_true rfl) (Nat.le_of_ble_eq_true rfl) dX12_readForecast_150 (.head _) (by decide) rfl (by decide)) dX12_readForecast_153 (.head _))
 (okSeq (p1 := 160) (Γ1 := [(0, 2), (1, 0), (2, 0), (3, 0)]) (okDoV (p1 := 157) (okCons (p1 := 155) (ok_aload_n dX12_readForecast_154 (.head _) rfl (.head _)) (okCons (p1 := 157) (ok_bipush dX12_readForecast_155 (.head _) (irn4 (by decide) (by decide))) okNil)) MX12_needWord cf_X12_needWord ci_12 rfl kc_X12_needWord km_X12_231 ki_X12_needWord kv_X12_needWord kn_X12 (Nat.le_of_ble_eq_true rfl) (Nat.le_of_ble_eq_true rfl) dX12_readForecast_157 (.head _) rfl)
 (okSeq (p1 := 173) (Γ1 := [(0, 2), (1, 0), (2, 0), (3, 0)]) (okArr (p1 := 164) (p2 := 165) (p3 := 172) (by decide) (okF (p1 := 161) (k := 22) (ok_aload_n dX12_readForecast_160 (.head _) rfl (.head _)) ci_12 (by decide) kf_X12_78 dX12_readForecast_161 (.head _) rfl rfl) (ok_iload_n dX12_readForecast_164 (.head _) rfl (.tail _ (.tail _ (.tail _ (.head _)))) t_0) (okCallV (p1 := 169) (okCons (p1 := 166) (ok_aload_n dX12_readForecast_165 (.head _) rfl (.head _)) (okCons (p1 := 167) (ok_iconst dX12_readForecast_166 (.head _) (irn (by decide) (by decide))) (okCons (p1 := 169) (ok_bipush dX12_readForecast_167 (.head _) (irn4 (by decide) (by decide))) okNil))) MX12_numeral cf_X12_numeral ci_12 rfl kc_X12_numeral km_X12_234 ki_X12_numeral kv_X12_numeral kn_X12 (Nat.le_of_ble_eq_true rfl) (Nat.le_of_ble_eq_true rfl) dX12_readForecast_169 (.head _) (by decide) rfl (by decide)) dX12_readForecast_172 (.head _))
 (okRetV rfl dX12_readForecast_173))))))))))))))))
def mX12_readForecast : QM := qM [2, 0] sX12_readForecast
theorem MX12_readForecast : MetY YX12_readForecast yX12_readForecast none [2, 0] mX12_readForecast := metY_of rfl (by decide +kernel) (.inr (.inr (.inr (.inl ⟨rfl, rfl⟩)))) (by decide) oX12_readForecast

abbrev YX12_readMeasure : YT := (RX12, cX12_readMeasure, 5, 4, 90, 9)
theorem cf_X12_readMeasure : CF yX12_readMeasure 1 := ⟨by decide +kernel, by decide +kernel, by decide +kernel⟩
def sX12_readMeasure : QT :=
 (sSeq (sIf (cB qeq (eA 40 (eF 12 2 (eV 0)) (eV 1)) (eI 4)) (sDo (eCallV 12 mX12_fail [(eV 0), (eI 4)])) sSkip)
 (sSeq (sIf (cB qgt (eF 12 37 (eV 0)) (eI 0)) sRetV sSkip)
 (sSeq (sDo (eCallV 12 mX12_scan [(eV 0)]))
 (sSeq (sSet 2 (eCall mX12_own [(eV 1), (eA 40 (eF 12 2 (eV 0)) (eV 1))]))
 (sSeq (sSet 3 (eA 40 (eF 12 2 (eV 0)) (eV 1)))
 (sSeq (sSet 4 (eF 12 27 (eV 0)))
 (sSeq (sDo (eCallV 12 mX12_newName [(eV 0), (eV 3)]))
 (sSeq (sIf (cB qgt (eF 12 37 (eV 0)) (eI 0)) sRetV sSkip)
 (sSeq (sArr 40 (eF 12 7 (eV 0)) (eV 2) (eIf (cE (eCallV 12 mX12_isWord [(eV 0), (eI 12)])) (eI 0) (eIf (cE (eCallV 12 mX12_isWord [(eV 0), (eI 13)])) (eI 1) (eI 2))))
 (sSeq (sIf (cAnd (cB qeq (eA 40 (eF 12 7 (eV 0)) (eV 2)) (eI 2)) (cNot (cE (eCallV 12 mX12_isWord [(eV 0), (eI 14)])))) (sDo (eCallV 12 mX12_fail [(eV 0), (eI 1)])) sSkip)
 (sSeq (sIf (cB qgt (eF 12 37 (eV 0)) (eI 0)) sRetV sSkip)
 (sSeq (sDo (eCallV 12 mX12_scan [(eV 0)]))
 (sSeq (sIf (cB qeq (eA 40 (eF 12 7 (eV 0)) (eV 2)) (eI 2)) (sSeq (sArr 40 (eF 12 8 (eV 0)) (eV 2) (eCallV 12 mX12_numeral [(eV 0), (eI 4), (eI 20)]))
 (sArr 40 (eF 12 9 (eV 0)) (eV 2) (eCallV 12 mX12_numeral [(eV 0), (e2 iA (eA 40 (eF 12 8 (eV 0)) (eV 2)) (eI 1)), (eI 20)]))) sSkip)
 (sSeq (sDo (eCallV 12 mX12_needWord [(eV 0), (eI 2)]))
 (sSeq (sArr 40 (eF 12 10 (eV 0)) (eV 2) (eCallV 12 mX12_numeral [(eV 0), (eI 1), (eI 1000)]))
 (sSeq (sArr 40 (eF 12 11 (eV 0)) (eV 2) (eI 0))
 (sSeq (sArr 40 (eF 12 12 (eV 0)) (eV 2) (eI 999999))
 (sSeq (sIf (cE (eCallV 12 mX12_isWord [(eV 0), (eI 3)])) (sSeq (sDo (eCallV 12 mX12_scan [(eV 0)]))
 (sArr 40 (eF 12 11 (eV 0)) (eV 2) (eCallV 12 mX12_numeral [(eV 0), (eI 0), (eI 999999)]))) sSkip)
 (sSeq (sIf (cE (eCallV 12 mX12_isWord [(eV 0), (eI 4)])) (sSeq (sDo (eCallV 12 mX12_scan [(eV 0)]))
 (sArr 40 (eF 12 12 (eV 0)) (eV 2) (eCallV 12 mX12_numeral [(eV 0), (eA 40 (eF 12 11 (eV 0)) (eV 2)), (eI 999999)]))) sSkip)
 (sSeq (sIf (cAnd (cB qeq (eF 12 37 (eV 0)) (eI 0)) (cB qgt (eF 12 27 (eV 0)) (eV 4))) (sArrC 40 (eF 12 2 (eV 0)) (eV 1) iA (eI 1)) sSkip)
 sRetV))))))))))))))))))))
set_option maxRecDepth 100000 in
theorem oX12_readMeasure : OkS YX12_readMeasure [(0, 2), (1, 0)] [(0, 2), (1, 0), (2, 0), (3, 0), (4, 0)] 0 [] [] [] [] [] sX12_readMeasure := by
  unfold sX12_readMeasure
  exact (okSeq (p1 := 15) (Γ1 := [(0, 2), (1, 0)]) (okIf (Γ' := [(0, 2), (1, 0)]) (T := [10]) (F := [15]) (okCBf (p1 := 6) (p2 := 7) (τa := 0) (τb := 0) (ok_iaload (.inr rfl) (p1 := 4) (p2 := 5) (okF (p1 := 1) (k := 2) (ok_aload_n dX12_readMeasure_0 (.head _) rfl (.head _)) ci_12 (by decide) kf_X12_17 dX12_readMeasure_1 (.head _) rfl rfl) (ok_iload_n dX12_readMeasure_4 (.head _) rfl (.tail _ (.head _)) t_0) dX12_readMeasure_5 (.head _)) (ok_iconst dX12_readMeasure_6 (.head _) (irn (by decide) (by decide))) (j_icmp_ne dX12_readMeasure_7 rfl) nq_eq (.head _) (.head _)) (one (okDoV (p1 := 12) (okCons (p1 := 11) (ok_aload_n dX12_readMeasure_10 (.head _) rfl (.head _)) (okCons (p1 := 12) (ok_iconst dX12_readMeasure_11 (.head _) (irn (by decide) (by decide))) okNil)) MX12_fail cf_X12_fail ci_12 rfl kc_X12_fail km_X12_207 ki_X12_fail kv_X12_fail kn_X12 (Nat.le_of_ble_eq_true rfl) (Nat.le_of_ble_eq_true rfl) dX12_readMeasure_12 (.head _) rfl)) (fun t ht => okSkip ht))
 (okSeq (p1 := 23) (Γ1 := [(0, 2), (1, 0)]) (okIf (Γ' := [(0, 2), (1, 0)]) (T := [22]) (F := [23]) (okCZf (p1 := 19) (τa := 0) (okF (p1 := 16) (k := 37) (ok_aload_n dX12_readMeasure_15 (.head _) rfl (.head _)) ci_12 (by decide) kf_X12_195 dX12_readMeasure_16 (.head _) rfl rfl) (j_if_le dX12_readMeasure_19 rfl) nq_gt (.head _) (.head _)) (one (okRetV rfl dX12_readMeasure_22)) (fun t ht => okSkip ht))
 (okSeq (p1 := 27) (Γ1 := [(0, 2), (1, 0)]) (okDoV (p1 := 24) (okCons (p1 := 24) (ok_aload_n dX12_readMeasure_23 (.head _) rfl (.head _)) okNil) MX12_scan cf_X12_scan ci_12 rfl kc_X12_scan km_X12_204 ki_X12_scan kv_X12_scan kn_X12 (Nat.le_of_ble_eq_true rfl) (Nat.le_of_ble_eq_true rfl) dX12_readMeasure_24 (.head _) rfl)
 (okSeq (p1 := 38) (Γ1 := [(0, 2), (1, 0), (2, 0)]) (ok_istore_n (Γ' := [(0, 2), (1, 0), (2, 0)]) (p1 := 37) (τ := 0) (okCallS (p1 := 34) (okCons (p1 := 28) (ok_iload_n dX12_readMeasure_27 (.head _) rfl (.tail _ (.head _)) t_0) (okCons (p1 := 34) (ok_iaload (.inr rfl) (p1 := 32) (p2 := 33) (okF (p1 := 29) (k := 2) (ok_aload_n dX12_readMeasure_28 (.head _) rfl (.head _)) ci_12 (by decide) kf_X12_17 dX12_readMeasure_29 (.head _) rfl rfl) (ok_iload_n dX12_readMeasure_32 (.head _) rfl (.tail _ (.head _)) t_0) dX12_readMeasure_33 (.head _)) okNil)) MX12_own cf_X12_own rfl kc_X12_own km_X12_142 ks_X12_own kn_X12 (Nat.le_of_ble_eq_true rfl) (Nat.le_of_ble_eq_true rfl) dX12_readMeasure_34 (.head _) (by decide) rfl (by decide)) t_0 dX12_readMeasure_37 rfl (by decide) (.head _) (by decide))
 (okSeq (p1 := 45) (Γ1 := [(0, 2), (1, 0), (2, 0), (3, 0)]) (ok_istore_n (Γ' := [(0, 2), (1, 0), (2, 0), (3, 0)]) (p1 := 44) (τ := 0) (ok_iaload (.inr rfl) (p1 := 42) (p2 := 43) (okF (p1 := 39) (k := 2) (ok_aload_n dX12_readMeasure_38 (.head _) rfl (.head _)) ci_12 (by decide) kf_X12_17 dX12_readMeasure_39 (.head _) rfl rfl) (ok_iload_n dX12_readMeasure_42 (.head _) rfl (.tail _ (.head _)) t_0) dX12_readMeasure_43 (.head _)) t_0 dX12_readMeasure_44 rfl (by decide) (.head _) (by decide))
 (okSeq (p1 := 51) (Γ1 := [(0, 2), (1, 0), (2, 0), (3, 0), (4, 0)]) (ok_istore (Γ' := [(0, 2), (1, 0), (2, 0), (3, 0), (4, 0)]) (p1 := 49) (τ := 0) (okF (p1 := 46) (k := 27) (ok_aload_n dX12_readMeasure_45 (.head _) rfl (.head _)) ci_12 (by decide) kf_X12_217 dX12_readMeasure_46 (.head _) rfl rfl) t_0 dX12_readMeasure_49 (by decide) (.head _) (by decide))
 (okSeq (p1 := 56) (Γ1 := [(0, 2), (1, 0), (2, 0), (3, 0), (4, 0)]) (okDoV (p1 := 53) (okCons (p1 := 52) (ok_aload_n dX12_readMeasure_51 (.head _) rfl (.head _)) (okCons (p1 := 53) (ok_iload_n dX12_readMeasure_52 (.head _) rfl (.tail _ (.tail _ (.tail _ (.head _)))) t_0) okNil)) MX12_newName cf_X12_newName ci_12 rfl kc_X12_newName km_X12_255 ki_X12_newName kv_X12_newName kn_X12 (Nat.le_of_ble_eq_true rfl) (Nat.le_of_ble_eq_true rfl) dX12_readMeasure_53 (.head _) rfl)
 (okSeq (p1 := 64) (Γ1 := [(0, 2), (1, 0), (2, 0), (3, 0), (4, 0)]) (okIf (Γ' := [(0, 2), (1, 0), (2, 0), (3, 0), (4, 0)]) (T := [63]) (F := [64]) (okCZf (p1 := 60) (τa := 0) (okF (p1 := 57) (k := 37) (ok_aload_n dX12_readMeasure_56 (.head _) rfl (.head _)) ci_12 (by decide) kf_X12_195 dX12_readMeasure_57 (.head _) rfl rfl) (j_if_le dX12_readMeasure_60 rfl) nq_gt (.head _) (.head _)) (one (okRetV rfl dX12_readMeasure_63)) (fun t ht => okSkip ht))
 (okSeq (p1 := 97) (Γ1 := [(0, 2), (1, 0), (2, 0), (3, 0), (4, 0)]) (okArr (p1 := 68) (p2 := 69) (p3 := 96) (by decide) (okF (p1 := 65) (k := 7) (ok_aload_n dX12_readMeasure_64 (.head _) rfl (.head _)) ci_12 (by decide) kf_X12_32 dX12_readMeasure_65 (.head _) rfl rfl) (ok_iload_n dX12_readMeasure_68 (.head _) rfl (.tail _ (.tail _ (.head _))) t_0) (okIfE (pt := 78) (pf := 82) (p1 := 79) (pe := 96) (okCEf (p1 := 75) (okI (τ := 3) (okCallV (p1 := 72) (okCons (p1 := 70) (ok_aload_n dX12_readMeasure_69 (.head _) rfl (.head _)) (okCons (p1 := 72) (ok_bipush dX12_readMeasure_70 (.head _) (irn4 (by decide) (by decide))) okNil)) MX12_isWord cf_X12_isWord ci_12 rfl kc_X12_isWord km_X12_210 ki_X12_isWord kv_X12_isWord kn_X12 (Nat.le_of_ble_eq_true rfl) (Nat.le_of_ble_eq_true rfl) dX12_readMeasure_72 (.head _) (by decide) rfl (by decide)) t_3) (j_if_eq dX12_readMeasure_75 rfl) (.head _) (.head _)) (ok_iconst dX12_readMeasure_78 (.head _) (irn (by decide) (by decide))) dX12_readMeasure_79 rfl (.head _) (okIfE (pt := 91) (pf := 95) (p1 := 92) (pe := 96) (okCEf (p1 := 88) (okI (τ := 3) (okCallV (p1 := 85) (okCons (p1 := 83) (ok_aload_n dX12_readMeasure_82 (.head _) rfl (.head _)) (okCons (p1 := 85) (ok_bipush dX12_readMeasure_83 (.head _) (irn4 (by decide) (by decide))) okNil)) MX12_isWord cf_X12_isWord ci_12 rfl kc_X12_isWord km_X12_210 ki_X12_isWord kv_X12_isWord kn_X12 (Nat.le_of_ble_eq_true rfl) (Nat.le_of_ble_eq_true rfl) dX12_readMeasure_85 (.head _) (by decide) rfl (by decide)) t_3) (j_if_eq dX12_readMeasure_88 rfl) (.head _) (.head _)) (ok_iconst dX12_readMeasure_91 (.head _) (irn (by decide) (by decide))) dX12_readMeasure_92 rfl (.head _) (ok_iconst dX12_readMeasure_95 (.head _) (irn (by decide) (by decide))))) dX12_readMeasure_96 (.head _))
 (okSeq (p1 := 121) (Γ1 := [(0, 2), (1, 0), (2, 0), (3, 0), (4, 0)]) (okIf (Γ' := [(0, 2), (1, 0), (2, 0), (3, 0), (4, 0)]) (T := [116]) (F := [121]) (okAnd (p1 := 107) (okCBf (p1 := 103) (p2 := 104) (τa := 0) (τb := 0) (ok_iaload (.inr rfl) (p1 := 101) (p2 := 102) (okF (p1 := 98) (k := 7) (ok_aload_n dX12_readMeasure_97 (.head _) rfl (.head _)) ci_12 (by decide) kf_X12_32 dX12_readMeasure_98 (.head _) rfl rfl) (ok_iload_n dX12_readMeasure_101 (.head _) rfl (.tail _ (.tail _ (.head _))) t_0) dX12_readMeasure_102 (.head _)) (ok_iconst dX12_readMeasure_103 (.head _) (irn (by decide) (by decide))) (j_icmp_ne dX12_readMeasure_104 rfl) nq_eq (.head _) (.head _)) (okNot (okCEt (p1 := 113) (okI (τ := 3) (okCallV (p1 := 110) (okCons (p1 := 108) (ok_aload_n dX12_readMeasure_107 (.head _) rfl (.head _)) (okCons (p1 := 110) (ok_bipush dX12_readMeasure_108 (.head _) (irn4 (by decide) (by decide))) okNil)) MX12_isWord cf_X12_isWord ci_12 rfl kc_X12_isWord km_X12_210 ki_X12_isWord kv_X12_isWord kn_X12 (Nat.le_of_ble_eq_true rfl) (Nat.le_of_ble_eq_true rfl) dX12_readMeasure_110 (.head _) (by decide) rfl (by decide)) t_3) (j_if_ne dX12_readMeasure_113 rfl) (.head _) (.head _)))) (one (okDoV (p1 := 118) (okCons (p1 := 117) (ok_aload_n dX12_readMeasure_116 (.head _) rfl (.head _)) (okCons (p1 := 118) (ok_iconst dX12_readMeasure_117 (.head _) (irn (by decide) (by decide))) okNil)) MX12_fail cf_X12_fail ci_12 rfl kc_X12_fail km_X12_207 ki_X12_fail kv_X12_fail kn_X12 (Nat.le_of_ble_eq_true rfl) (Nat.le_of_ble_eq_true rfl) dX12_readMeasure_118 (.head _) rfl)) (fun t ht => okSkip ht))
 (okSeq (p1 := 129) (Γ1 := [(0, 2), (1, 0), (2, 0), (3, 0), (4, 0)]) (okIf (Γ' := [(0, 2), (1, 0), (2, 0), (3, 0), (4, 0)]) (T := [128]) (F := [129]) (okCZf (p1 := 125) (τa := 0) (okF (p1 := 122) (k := 37) (ok_aload_n dX12_readMeasure_121 (.head _) rfl (.head _)) ci_12 (by decide) kf_X12_195 dX12_readMeasure_122 (.head _) rfl rfl) (j_if_le dX12_readMeasure_125 rfl) nq_gt (.head _) (.head _)) (one (okRetV rfl dX12_readMeasure_128)) (fun t ht => okSkip ht))
 (okSeq (p1 := 133) (Γ1 := [(0, 2), (1, 0), (2, 0), (3, 0), (4, 0)]) (okDoV (p1 := 130) (okCons (p1 := 130) (ok_aload_n dX12_readMeasure_129 (.head _) rfl (.head _)) okNil) MX12_scan cf_X12_scan ci_12 rfl kc_X12_scan km_X12_204 ki_X12_scan kv_X12_scan kn_X12 (Nat.le_of_ble_eq_true rfl) (Nat.le_of_ble_eq_true rfl) dX12_readMeasure_130 (.head _) rfl)
 (okSeq (p1 := 176) (Γ1 := [(0, 2), (1, 0), (2, 0), (3, 0), (4, 0)]) (okIf (Γ' := [(0, 2), (1, 0), (2, 0), (3, 0), (4, 0)]) (T := [143]) (F := [176]) (okCBf (p1 := 139) (p2 := 140) (τa := 0) (τb := 0) (ok_iaload (.inr rfl) (p1 := 137) (p2 := 138) (okF (p1 := 134) (k := 7) (ok_aload_n dX12_readMeasure_133 (.head _) rfl (.head _)) ci_12 (by decide) kf_X12_32 dX12_readMeasure_134 (.head _) rfl rfl) (ok_iload_n dX12_readMeasure_137 (.head _) rfl (.tail _ (.tail _ (.head _))) t_0) dX12_readMeasure_138 (.head _)) (ok_iconst dX12_readMeasure_139 (.head _) (irn (by decide) (by decide))) (j_icmp_ne dX12_readMeasure_140 rfl) nq_eq (.head _) (.head _)) (one (okSeq (p1 := 156) (Γ1 := [(0, 2), (1, 0), (2, 0), (3, 0), (4, 0)]) (okArr (p1 := 147) (p2 := 148) (p3 := 155) (by decide) (okF (p1 := 144) (k := 8) (ok_aload_n dX12_readMeasure_143 (.head _) rfl (.head _)) ci_12 (by decide) kf_X12_35 dX12_readMeasure_144 (.head _) rfl rfl) (ok_iload_n dX12_readMeasure_147 (.head _) rfl (.tail _ (.tail _ (.head _))) t_0) (okCallV (p1 := 152) (okCons (p1 := 149) (ok_aload_n dX12_readMeasure_148 (.head _) rfl (.head _)) (okCons (p1 := 150) (ok_iconst dX12_readMeasure_149 (.head _) (irn (by decide) (by decide))) (okCons (p1 := 152) (ok_bipush dX12_readMeasure_150 (.head _) (irn4 (by decide) (by decide))) okNil))) MX12_numeral cf_X12_numeral ci_12 rfl kc_X12_numeral km_X12_234 ki_X12_numeral kv_X12_numeral kn_X12 (Nat.le_of_ble_eq_true rfl) (Nat.le_of_ble_eq_true rfl) dX12_readMeasure_152 (.head _) (by decide) rfl (by decide)) dX12_readMeasure_155 (.head _))
 (okArr (p1 := 160) (p2 := 161) (p3 := 175) (by decide) (okF (p1 := 157) (k := 9) (ok_aload_n dX12_readMeasure_156 (.head _) rfl (.head _)) ci_12 (by decide) kf_X12_38 dX12_readMeasure_157 (.head _) rfl rfl) (ok_iload_n dX12_readMeasure_160 (.head _) rfl (.tail _ (.tail _ (.head _))) t_0) (okCallV (p1 := 172) (okCons (p1 := 162) (ok_aload_n dX12_readMeasure_161 (.head _) rfl (.head _)) (okCons (p1 := 170) (okE2 (p1 := 168) (p2 := 169) (τa := 0) (τb := 0) (ok_iaload (.inr rfl) (p1 := 166) (p2 := 167) (okF (p1 := 163) (k := 8) (ok_aload_n dX12_readMeasure_162 (.head _) rfl (.head _)) ci_12 (by decide) kf_X12_35 dX12_readMeasure_163 (.head _) rfl rfl) (ok_iload_n dX12_readMeasure_166 (.head _) rfl (.tail _ (.tail _ (.head _))) t_0) dX12_readMeasure_167 (.head _)) (ok_iconst dX12_readMeasure_168 (.head _) (irn (by decide) (by decide))) (s_iadd dX12_readMeasure_169 (.head _))) (okCons (p1 := 172) (ok_bipush dX12_readMeasure_170 (.head _) (irn4 (by decide) (by decide))) okNil))) MX12_numeral cf_X12_numeral ci_12 rfl kc_X12_numeral km_X12_234 ki_X12_numeral kv_X12_numeral kn_X12 (Nat.le_of_ble_eq_true rfl) (Nat.le_of_ble_eq_true rfl) dX12_readMeasure_172 (.head _) (by decide) rfl (by decide)) dX12_readMeasure_175 (.head _)))) (fun t ht => okSkip ht))
 (okSeq (p1 := 181) (Γ1 := [(0, 2), (1, 0), (2, 0), (3, 0), (4, 0)]) (okDoV (p1 := 178) (okCons (p1 := 177) (ok_aload_n dX12_readMeasure_176 (.head _) rfl (.head _)) (okCons (p1 := 178) (ok_iconst dX12_readMeasure_177 (.head _) (irn (by decide) (by decide))) okNil)) MX12_needWord cf_X12_needWord ci_12 rfl kc_X12_needWord km_X12_231 ki_X12_needWord kv_X12_needWord kn_X12 (Nat.le_of_ble_eq_true rfl) (Nat.le_of_ble_eq_true rfl) dX12_readMeasure_178 (.head _) rfl)
 (okSeq (p1 := 195) (Γ1 := [(0, 2), (1, 0), (2, 0), (3, 0), (4, 0)]) (okArr (p1 := 185) (p2 := 186) (p3 := 194) (by decide) (okF (p1 := 182) (k := 10) (ok_aload_n dX12_readMeasure_181 (.head _) rfl (.head _)) ci_12 (by decide) kf_X12_41 dX12_readMeasure_182 (.head _) rfl rfl) (ok_iload_n dX12_readMeasure_185 (.head _) rfl (.tail _ (.tail _ (.head _))) t_0) (okCallV (p1 := 191) (okCons (p1 := 187) (ok_aload_n dX12_readMeasure_186 (.head _) rfl (.head _)) (okCons (p1 := 188) (ok_iconst dX12_readMeasure_187 (.head _) (irn (by decide) (by decide))) (okCons (p1 := 191) (ok_sipush dX12_readMeasure_188 (.head _) ⟨by decide, by decide⟩) okNil))) MX12_numeral cf_X12_numeral ci_12 rfl kc_X12_numeral km_X12_234 ki_X12_numeral kv_X12_numeral kn_X12 (Nat.le_of_ble_eq_true rfl) (Nat.le_of_ble_eq_true rfl) dX12_readMeasure_191 (.head _) (by decide) rfl (by decide)) dX12_readMeasure_194 (.head _))
 (okSeq (p1 := 202) (Γ1 := [(0, 2), (1, 0), (2, 0), (3, 0), (4, 0)]) (okArr (p1 := 199) (p2 := 200) (p3 := 201) (by decide) (okF (p1 := 196) (k := 11) (ok_aload_n dX12_readMeasure_195 (.head _) rfl (.head _)) ci_12 (by decide) kf_X12_44 dX12_readMeasure_196 (.head _) rfl rfl) (ok_iload_n dX12_readMeasure_199 (.head _) rfl (.tail _ (.tail _ (.head _))) t_0) (ok_iconst dX12_readMeasure_200 (.head _) (irn (by decide) (by decide))) dX12_readMeasure_201 (.head _))
 (okSeq (p1 := 210) (Γ1 := [(0, 2), (1, 0), (2, 0), (3, 0), (4, 0)]) (okArr (p1 := 206) (p2 := 207) (p3 := 209) (by decide) (okF (p1 := 203) (k := 12) (ok_aload_n dX12_readMeasure_202 (.head _) rfl (.head _)) ci_12 (by decide) kf_X12_47 dX12_readMeasure_203 (.head _) rfl rfl) (ok_iload_n dX12_readMeasure_206 (.head _) rfl (.tail _ (.tail _ (.head _))) t_0) (ok_ldc kk_X12_194 (by decide) dX12_readMeasure_207 (.head _)) dX12_readMeasure_209 (.head _))
 (okSeq (p1 := 235) (Γ1 := [(0, 2), (1, 0), (2, 0), (3, 0), (4, 0)]) (okIf (Γ' := [(0, 2), (1, 0), (2, 0), (3, 0), (4, 0)]) (T := [218]) (F := [235]) (okCEf (p1 := 215) (okI (τ := 3) (okCallV (p1 := 212) (okCons (p1 := 211) (ok_aload_n dX12_readMeasure_210 (.head _) rfl (.head _)) (okCons (p1 := 212) (ok_iconst dX12_readMeasure_211 (.head _) (irn (by decide) (by decide))) okNil)) MX12_isWord cf_X12_isWord ci_12 rfl kc_X12_isWord km_X12_210 ki_X12_isWord kv_X12_isWord kn_X12 (Nat.le_of_ble_eq_true rfl) (Nat.le_of_ble_eq_true rfl) dX12_readMeasure_212 (.head _) (by decide) rfl (by decide)) t_3) (j_if_eq dX12_readMeasure_215 rfl) (.head _) (.head _)) (one (okSeq (p1 := 222) (Γ1 := [(0, 2), (1, 0), (2, 0), (3, 0), (4, 0)]) (okDoV (p1 := 219) (okCons (p1 := 219) (ok_aload_n dX12_readMeasure_218 (.head _) rfl (.head _)) okNil) MX12_scan cf_X12_scan ci_12 rfl kc_X12_scan km_X12_204 ki_X12_scan kv_X12_scan kn_X12 (Nat.le_of_ble_eq_true rfl) (Nat.le_of_ble_eq_true rfl) dX12_readMeasure_219 (.head _) rfl)
 (okArr (p1 := 226) (p2 := 227) (p3 := 234) (by decide) (okF (p1 := 223) (k := 11) (ok_aload_n dX12_readMeasure_222 (.head _) rfl (.head _)) ci_12 (by decide) kf_X12_44 dX12_readMeasure_223 (.head _) rfl rfl) (ok_iload_n dX12_readMeasure_226 (.head _) rfl (.tail _ (.tail _ (.head _))) t_0) (okCallV (p1 := 231) (okCons (p1 := 228) (ok_aload_n dX12_readMeasure_227 (.head _) rfl (.head _)) (okCons (p1 := 229) (ok_iconst dX12_readMeasure_228 (.head _) (irn (by decide) (by decide))) (okCons (p1 := 231) (ok_ldc kk_X12_194 (by decide) dX12_readMeasure_229 (.head _)) okNil))) MX12_numeral cf_X12_numeral ci_12 rfl kc_X12_numeral km_X12_234 ki_X12_numeral kv_X12_numeral kn_X12 (Nat.le_of_ble_eq_true rfl) (Nat.le_of_ble_eq_true rfl) dX12_readMeasure_231 (.head _) (by decide) rfl (by decide)) dX12_readMeasure_234 (.head _)))) (fun t ht => okSkip ht))
 (okSeq (p1 := 265) (Γ1 := [(0, 2), (1, 0), (2, 0), (3, 0), (4, 0)]) (okIf (Γ' := [(0, 2), (1, 0), (2, 0), (3, 0), (4, 0)]) (T := [243]) (F := [265]) (okCEf (p1 := 240) (okI (τ := 3) (okCallV (p1 := 237) (okCons (p1 := 236) (ok_aload_n dX12_readMeasure_235 (.head _) rfl (.head _)) (okCons (p1 := 237) (ok_iconst dX12_readMeasure_236 (.head _) (irn (by decide) (by decide))) okNil)) MX12_isWord cf_X12_isWord ci_12 rfl kc_X12_isWord km_X12_210 ki_X12_isWord kv_X12_isWord kn_X12 (Nat.le_of_ble_eq_true rfl) (Nat.le_of_ble_eq_true rfl) dX12_readMeasure_237 (.head _) (by decide) rfl (by decide)) t_3) (j_if_eq dX12_readMeasure_240 rfl) (.head _) (.head _)) (one (okSeq (p1 := 247) (Γ1 := [(0, 2), (1, 0), (2, 0), (3, 0), (4, 0)]) (okDoV (p1 := 244) (okCons (p1 := 244) (ok_aload_n dX12_readMeasure_243 (.head _) rfl (.head _)) okNil) MX12_scan cf_X12_scan ci_12 rfl kc_X12_scan km_X12_204 ki_X12_scan kv_X12_scan kn_X12 (Nat.le_of_ble_eq_true rfl) (Nat.le_of_ble_eq_true rfl) dX12_readMeasure_244 (.head _) rfl)
 (okArr (p1 := 251) (p2 := 252) (p3 := 264) (by decide) (okF (p1 := 248) (k := 12) (ok_aload_n dX12_readMeasure_247 (.head _) rfl (.head _)) ci_12 (by decide) kf_X12_47 dX12_readMeasure_248 (.head _) rfl rfl) (ok_iload_n dX12_readMeasure_251 (.head _) rfl (.tail _ (.tail _ (.head _))) t_0) (okCallV (p1 := 261) (okCons (p1 := 253) (ok_aload_n dX12_readMeasure_252 (.head _) rfl (.head _)) (okCons (p1 := 259) (ok_iaload (.inr rfl) (p1 := 257) (p2 := 258) (okF (p1 := 254) (k := 11) (ok_aload_n dX12_readMeasure_253 (.head _) rfl (.head _)) ci_12 (by decide) kf_X12_44 dX12_readMeasure_254 (.head _) rfl rfl) (ok_iload_n dX12_readMeasure_257 (.head _) rfl (.tail _ (.tail _ (.head _))) t_0) dX12_readMeasure_258 (.head _)) (okCons (p1 := 261) (ok_ldc kk_X12_194 (by decide) dX12_readMeasure_259 (.head _)) okNil))) MX12_numeral cf_X12_numeral ci_12 rfl kc_X12_numeral km_X12_234 ki_X12_numeral kv_X12_numeral kn_X12 (Nat.le_of_ble_eq_true rfl) (Nat.le_of_ble_eq_true rfl) dX12_readMeasure_261 (.head _) (by decide) rfl (by decide)) dX12_readMeasure_264 (.head _)))) (fun t ht => okSkip ht))
 (okSeq (p1 := 291) (Γ1 := [(0, 2), (1, 0), (2, 0), (3, 0), (4, 0)]) (okIf (Γ' := [(0, 2), (1, 0), (2, 0), (3, 0), (4, 0)]) (T := [281]) (F := [291]) (okAnd (p1 := 272) (okCZf (p1 := 269) (τa := 0) (okF (p1 := 266) (k := 37) (ok_aload_n dX12_readMeasure_265 (.head _) rfl (.head _)) ci_12 (by decide) kf_X12_195 dX12_readMeasure_266 (.head _) rfl rfl) (j_if_ne dX12_readMeasure_269 rfl) nq_eq (.head _) (.head _)) (okCBf (p1 := 276) (p2 := 278) (τa := 0) (τb := 0) (okF (p1 := 273) (k := 27) (ok_aload_n dX12_readMeasure_272 (.head _) rfl (.head _)) ci_12 (by decide) kf_X12_217 dX12_readMeasure_273 (.head _) rfl rfl) (ok_iload dX12_readMeasure_276 (.head _) (.tail _ (.tail _ (.tail _ (.tail _ (.head _))))) t_0) (j_icmp_le dX12_readMeasure_278 rfl) nq_gt (.head _) (.head _))) (one (okArrC (p1 := 285) (p2 := 286) (p3 := 289) (p4 := 290) (τb := 0) (by decide) (okF (p1 := 282) (k := 2) (ok_aload_n dX12_readMeasure_281 (.head _) rfl (.head _)) ci_12 (by decide) kf_X12_17 dX12_readMeasure_282 (.head _) rfl rfl) (ok_iload_n dX12_readMeasure_285 (.head _) rfl (.tail _ (.head _)) t_0) dX12_readMeasure_286 dX12_readMeasure_287 (ok_iconst dX12_readMeasure_288 (.head _) (irn (by decide) (by decide))) (s_iadd dX12_readMeasure_289 (.head _)) dX12_readMeasure_290 (.head _))) (fun t ht => okSkip ht))
 (okRetV rfl dX12_readMeasure_291)))))))))))))))))))))
def mX12_readMeasure : QM := qM [2, 0] sX12_readMeasure
theorem MX12_readMeasure : MetY YX12_readMeasure yX12_readMeasure none [2, 0] mX12_readMeasure := metY_of rfl (by decide +kernel) (.inr (.inr (.inr (.inl ⟨rfl, rfl⟩)))) (by decide) oX12_readMeasure

abbrev YX12_between : YT := (RX12, cX12_between, 1, 2, 42, 0)
theorem cf_X12_between : CF yX12_between 0 := ⟨by decide +kernel, by decide +kernel, by decide +kernel⟩
def sX12_between : QT :=
 (sRet (eIf (cE (eCallV 12 mX12_isWord [(eV 0), (eI 17)])) (eI 10020) (eIf (cE (eCallV 12 mX12_isAt [(eV 0), (eI 43)])) (eI 10021) (eIf (cE (eCallV 12 mX12_isAt [(eV 0), (eI 45)])) (eI 10022) (eIf (cE (eCallV 12 mX12_isAt [(eV 0), (eI 42)])) (eI 10023) (eIf (cE (eCallV 12 mX12_isAt [(eV 0), (eI 47)])) (eI 10024) (eI (-1))))))))
set_option maxRecDepth 100000 in
theorem oX12_between : OkS YX12_between [(0, 2)] [(0, 2)] 0 [] [] [] [] [] sX12_between := by
  unfold sX12_between
  exact (okRet (p1 := 76) (τ := 0) (okIfE (pt := 9) (pf := 15) (p1 := 12) (pe := 76) (okCEf (p1 := 6) (okI (τ := 3) (okCallV (p1 := 3) (okCons (p1 := 1) (ok_aload_n dX12_between_0 (.head _) rfl (.head _)) (okCons (p1 := 3) (ok_bipush dX12_between_1 (.head _) (irn4 (by decide) (by decide))) okNil)) MX12_isWord cf_X12_isWord ci_12 rfl kc_X12_isWord km_X12_210 ki_X12_isWord kv_X12_isWord kn_X12 (Nat.le_of_ble_eq_true rfl) (Nat.le_of_ble_eq_true rfl) dX12_between_3 (.head _) (by decide) rfl (by decide)) t_3) (j_if_eq dX12_between_6 rfl) (.head _) (.head _)) (ok_sipush dX12_between_9 (.head _) ⟨by decide, by decide⟩) dX12_between_12 rfl (.head _) (okIfE (pt := 24) (pf := 30) (p1 := 27) (pe := 76) (okCEf (p1 := 21) (okI (τ := 3) (okCallV (p1 := 18) (okCons (p1 := 16) (ok_aload_n dX12_between_15 (.head _) rfl (.head _)) (okCons (p1 := 18) (ok_bipush dX12_between_16 (.head _) (irn4 (by decide) (by decide))) okNil)) MX12_isAt cf_X12_isAt ci_12 rfl kc_X12_isAt km_X12_201 ki_X12_isAt kv_X12_isAt kn_X12 (Nat.le_of_ble_eq_true rfl) (Nat.le_of_ble_eq_true rfl) dX12_between_18 (.head _) (by decide) rfl (by decide)) t_3) (j_if_eq dX12_between_21 rfl) (.head _) (.head _)) (ok_sipush dX12_between_24 (.head _) ⟨by decide, by decide⟩) dX12_between_27 rfl (.head _) (okIfE (pt := 39) (pf := 45) (p1 := 42) (pe := 76) (okCEf (p1 := 36) (okI (τ := 3) (okCallV (p1 := 33) (okCons (p1 := 31) (ok_aload_n dX12_between_30 (.head _) rfl (.head _)) (okCons (p1 := 33) (ok_bipush dX12_between_31 (.head _) (irn4 (by decide) (by decide))) okNil)) MX12_isAt cf_X12_isAt ci_12 rfl kc_X12_isAt km_X12_201 ki_X12_isAt kv_X12_isAt kn_X12 (Nat.le_of_ble_eq_true rfl) (Nat.le_of_ble_eq_true rfl) dX12_between_33 (.head _) (by decide) rfl (by decide)) t_3) (j_if_eq dX12_between_36 rfl) (.head _) (.head _)) (ok_sipush dX12_between_39 (.head _) ⟨by decide, by decide⟩) dX12_between_42 rfl (.head _) (okIfE (pt := 54) (pf := 60) (p1 := 57) (pe := 76) (okCEf (p1 := 51) (okI (τ := 3) (okCallV (p1 := 48) (okCons (p1 := 46) (ok_aload_n dX12_between_45 (.head _) rfl (.head _)) (okCons (p1 := 48) (ok_bipush dX12_between_46 (.head _) (irn4 (by decide) (by decide))) okNil)) MX12_isAt cf_X12_isAt ci_12 rfl kc_X12_isAt km_X12_201 ki_X12_isAt kv_X12_isAt kn_X12 (Nat.le_of_ble_eq_true rfl) (Nat.le_of_ble_eq_true rfl) dX12_between_48 (.head _) (by decide) rfl (by decide)) t_3) (j_if_eq dX12_between_51 rfl) (.head _) (.head _)) (ok_sipush dX12_between_54 (.head _) ⟨by decide, by decide⟩) dX12_between_57 rfl (.head _) (okIfE (pt := 69) (pf := 75) (p1 := 72) (pe := 76) (okCEf (p1 := 66) (okI (τ := 3) (okCallV (p1 := 63) (okCons (p1 := 61) (ok_aload_n dX12_between_60 (.head _) rfl (.head _)) (okCons (p1 := 63) (ok_bipush dX12_between_61 (.head _) (irn4 (by decide) (by decide))) okNil)) MX12_isAt cf_X12_isAt ci_12 rfl kc_X12_isAt km_X12_201 ki_X12_isAt kv_X12_isAt kn_X12 (Nat.le_of_ble_eq_true rfl) (Nat.le_of_ble_eq_true rfl) dX12_between_63 (.head _) (by decide) rfl (by decide)) t_3) (j_if_eq dX12_between_66 rfl) (.head _) (.head _)) (ok_sipush dX12_between_69 (.head _) ⟨by decide, by decide⟩) dX12_between_72 rfl (.head _) (ok_iconst dX12_between_75 (.head _) (irn (by decide) (by decide)))))))) rfl (by decide) dX12_between_76)
def mX12_between : QM := qM [2] sX12_between
theorem MX12_between : MetY YX12_between yX12_between (some .int) [2] mX12_between := metY_of rfl (by decide +kernel) (.inl ⟨rfl, rfl⟩) (by decide) oX12_between

abbrev YX12_lay : YT := (RX12, cX12_lay, 3, 0, 0, 9)
theorem cf_X12_lay : CF yX12_lay 2 := ⟨by decide +kernel, by decide +kernel, by decide +kernel⟩
def sX12_lay : QT :=
 (sSeq (sArr 40 (eF 12 23 (eV 0)) (e2 iA (e2 iM (eI 100) (eV 1)) (eA 40 (eF 12 6 (eV 0)) (eV 1))) (eV 2))
 (sSeq (sArrC 40 (eF 12 6 (eV 0)) (eV 1) iA (eI 1))
 sRetV))
set_option maxRecDepth 100000 in
theorem oX12_lay : OkS YX12_lay [(0, 2), (1, 0), (2, 0)] [(0, 2), (1, 0), (2, 0)] 0 [] [] [] [] [] sX12_lay := by
  unfold sX12_lay
  exact (okSeq (p1 := 17) (Γ1 := [(0, 2), (1, 0), (2, 0)]) (okArr (p1 := 4) (p2 := 15) (p3 := 16) (by decide) (okF (p1 := 1) (k := 23) (ok_aload_n dX12_lay_0 (.head _) rfl (.head _)) ci_12 (by decide) kf_X12_81 dX12_lay_1 (.head _) rfl rfl) (okE2 (p1 := 8) (p2 := 14) (τa := 0) (τb := 0) (okE2 (p1 := 6) (p2 := 7) (τa := 0) (τb := 0) (ok_bipush dX12_lay_4 (.head _) (irn4 (by decide) (by decide))) (ok_iload_n dX12_lay_6 (.head _) rfl (.tail _ (.head _)) t_0) (s_imul dX12_lay_7 (.head _))) (ok_iaload (.inr rfl) (p1 := 12) (p2 := 13) (okF (p1 := 9) (k := 6) (ok_aload_n dX12_lay_8 (.head _) rfl (.head _)) ci_12 (by decide) kf_X12_29 dX12_lay_9 (.head _) rfl rfl) (ok_iload_n dX12_lay_12 (.head _) rfl (.tail _ (.head _)) t_0) dX12_lay_13 (.head _)) (s_iadd dX12_lay_14 (.head _))) (ok_iload_n dX12_lay_15 (.head _) rfl (.tail _ (.tail _ (.head _))) t_0) dX12_lay_16 (.head _))
 (okSeq (p1 := 27) (Γ1 := [(0, 2), (1, 0), (2, 0)]) (okArrC (p1 := 21) (p2 := 22) (p3 := 25) (p4 := 26) (τb := 0) (by decide) (okF (p1 := 18) (k := 6) (ok_aload_n dX12_lay_17 (.head _) rfl (.head _)) ci_12 (by decide) kf_X12_29 dX12_lay_18 (.head _) rfl rfl) (ok_iload_n dX12_lay_21 (.head _) rfl (.tail _ (.head _)) t_0) dX12_lay_22 dX12_lay_23 (ok_iconst dX12_lay_24 (.head _) (irn (by decide) (by decide))) (s_iadd dX12_lay_25 (.head _)) dX12_lay_26 (.head _))
 (okRetV rfl dX12_lay_27)))
def mX12_lay : QM := qM [2, 0, 0] sX12_lay
theorem MX12_lay : MetY YX12_lay yX12_lay none [2, 0, 0] mX12_lay := metY_of rfl (by decide +kernel) (.inr (.inr (.inr (.inl ⟨rfl, rfl⟩)))) (by decide) oX12_lay

abbrev YX12_layWaiting : YT := (RX12, cX12_layWaiting, 2, 1, 22, 9)
theorem cf_X12_layWaiting : CF yX12_layWaiting 1 := ⟨by decide +kernel, by decide +kernel, by decide +kernel⟩
def sX12_layWaiting : QT :=
 (sSeq (sPutC 12 44 (eV 0) iS (eI 1))
 (sSeq (sDo (eCallV 12 mX12_lay [(eV 0), (eV 1), (eA 40 (eF 12 43 (eV 0)) (eF 12 44 (eV 0)))]))
 sRetV))
set_option maxRecDepth 100000 in
theorem oX12_layWaiting : OkS YX12_layWaiting [(0, 2), (1, 0)] [(0, 2), (1, 0)] 0 [] [] [] [] [] sX12_layWaiting := by
  unfold sX12_layWaiting
  exact (okSeq (p1 := 10) (Γ1 := [(0, 2), (1, 0)]) (okPutC (p1 := 1) (p2 := 6) (p3 := 7) (k := 44) (τ := 0) (τb := 0) (ok_aload_n dX12_layWaiting_0 (.head _) rfl (.head _)) dX12_layWaiting_1 dX12_layWaiting_2 (ok_iconst dX12_layWaiting_5 (.head _) (irn (by decide) (by decide))) (s_isub dX12_layWaiting_6 (.head _)) rfl ci_12 (by decide) kf_X12_263 rfl (fun z _ => qfit_int z) dX12_layWaiting_7 (.head _) rfl)
 (okSeq (p1 := 24) (Γ1 := [(0, 2), (1, 0)]) (okDoV (p1 := 21) (okCons (p1 := 11) (ok_aload_n dX12_layWaiting_10 (.head _) rfl (.head _)) (okCons (p1 := 12) (ok_iload_n dX12_layWaiting_11 (.head _) rfl (.tail _ (.head _)) t_0) (okCons (p1 := 21) (ok_iaload (.inr rfl) (p1 := 16) (p2 := 20) (okF (p1 := 13) (k := 43) (ok_aload_n dX12_layWaiting_12 (.head _) rfl (.head _)) ci_12 (by decide) kf_X12_107 dX12_layWaiting_13 (.head _) rfl rfl) (okF (p1 := 17) (k := 44) (ok_aload_n dX12_layWaiting_16 (.head _) rfl (.head _)) ci_12 (by decide) kf_X12_263 dX12_layWaiting_17 (.head _) rfl rfl) dX12_layWaiting_20 (.head _)) okNil))) MX12_lay cf_X12_lay ci_12 rfl kc_X12_lay km_X12_266 ki_X12_lay kv_X12_lay kn_X12 (Nat.le_of_ble_eq_true rfl) (Nat.le_of_ble_eq_true rfl) dX12_layWaiting_21 (.head _) rfl)
 (okRetV rfl dX12_layWaiting_24)))
def mX12_layWaiting : QM := qM [2, 0] sX12_layWaiting
theorem MX12_layWaiting : MetY YX12_layWaiting yX12_layWaiting none [2, 0] mX12_layWaiting := metY_of rfl (by decide +kernel) (.inr (.inr (.inr (.inl ⟨rfl, rfl⟩)))) (by decide) oX12_layWaiting

abbrev YX12_bindsBy : YT := (RX12, cX12_bindsBy, 1, 0, 0, 0)
theorem cf_X12_bindsBy : CF yX12_bindsBy 1 := ⟨by decide +kernel, by decide +kernel, by decide +kernel⟩
def sX12_bindsBy : QT :=
 (sRet (eIf (cB qeq (eV 0) (eI 10025)) (eI 0) (eIf (cB qeq (eV 0) (eI 10020)) (eI 1) (eIf (cOr (cB qeq (eV 0) (eI 10021)) (cB qeq (eV 0) (eI 10022))) (eI 2) (eI 3)))))
set_option maxRecDepth 100000 in
theorem oX12_bindsBy : OkS YX12_bindsBy [(0, 0)] [(0, 0)] 0 [] [] [] [] [] sX12_bindsBy := by
  unfold sX12_bindsBy
  exact (okRet (p1 := 41) (τ := 0) (okIfE (pt := 7) (pf := 11) (p1 := 8) (pe := 41) (okCBf (p1 := 1) (p2 := 4) (τa := 0) (τb := 0) (ok_iload_n dX12_bindsBy_0 (.head _) rfl (.head _) t_0) (ok_sipush dX12_bindsBy_1 (.head _) ⟨by decide, by decide⟩) (j_icmp_ne dX12_bindsBy_4 rfl) nq_eq (.head _) (.head _)) (ok_iconst dX12_bindsBy_7 (.head _) (irn (by decide) (by decide))) dX12_bindsBy_8 rfl (.head _) (okIfE (pt := 18) (pf := 22) (p1 := 19) (pe := 41) (okCBf (p1 := 12) (p2 := 15) (τa := 0) (τb := 0) (ok_iload_n dX12_bindsBy_11 (.head _) rfl (.head _) t_0) (ok_sipush dX12_bindsBy_12 (.head _) ⟨by decide, by decide⟩) (j_icmp_ne dX12_bindsBy_15 rfl) nq_eq (.head _) (.head _)) (ok_iconst dX12_bindsBy_18 (.head _) (irn (by decide) (by decide))) dX12_bindsBy_19 rfl (.head _) (okIfE (pt := 36) (pf := 40) (p1 := 37) (pe := 41) (okOr (p1 := 29) (okCBt (p1 := 23) (p2 := 26) (τa := 0) (τb := 0) (ok_iload_n dX12_bindsBy_22 (.head _) rfl (.head _) t_0) (ok_sipush dX12_bindsBy_23 (.head _) ⟨by decide, by decide⟩) (j_icmp_eq dX12_bindsBy_26 rfl) (.head _) (.head _)) (okCBf (p1 := 30) (p2 := 33) (τa := 0) (τb := 0) (ok_iload_n dX12_bindsBy_29 (.head _) rfl (.head _) t_0) (ok_sipush dX12_bindsBy_30 (.head _) ⟨by decide, by decide⟩) (j_icmp_ne dX12_bindsBy_33 rfl) nq_eq (.head _) (.head _))) (ok_iconst dX12_bindsBy_36 (.head _) (irn (by decide) (by decide))) dX12_bindsBy_37 rfl (.head _) (ok_iconst dX12_bindsBy_40 (.head _) (irn (by decide) (by decide)))))) rfl (by decide) dX12_bindsBy_41)
def mX12_bindsBy : QM := qM [0] sX12_bindsBy
theorem MX12_bindsBy : MetY YX12_bindsBy yX12_bindsBy (some .int) [0] mX12_bindsBy := metY_of rfl (by decide +kernel) (.inl ⟨rfl, rfl⟩) (by decide) oX12_bindsBy

abbrev YX12_push : YT := (RX12, cX12_push, 3, 2, 43, 9)
theorem cf_X12_push : CF yX12_push 2 := ⟨by decide +kernel, by decide +kernel, by decide +kernel⟩
def cX12_push_1 : QC :=
 (cAnd (cAnd (cB qgt (eF 12 44 (eV 0)) (eI 0)) (cB qne (eV 2) (eI 10025))) (cB qge (eCall mX12_bindsBy [(eA 40 (eF 12 43 (eV 0)) (e2 iS (eF 12 44 (eV 0)) (eI 1)))]) (eCall mX12_bindsBy [(eV 2)])))
def bX12_push_1 : QT :=
 (sDo (eCallV 12 mX12_layWaiting [(eV 0), (eV 1)]))
def uX12_push_1 : QT :=
 sSkip
set_option maxRecDepth 100000 in
theorem obX12_push_1 : OkS YX12_push [(0, 2), (1, 0), (2, 0)] [(0, 2), (1, 0), (2, 0)] 35 [40, 0] [(0, 2), (1, 0), (2, 0)] [43] [(0, 2), (1, 0), (2, 0)] [40, 0] bX12_push_1 := by
  unfold bX12_push_1
  exact (okDoV (p1 := 37) (okCons (p1 := 36) (ok_aload_n dX12_push_35 (.head _) rfl (.head _)) (okCons (p1 := 37) (ok_iload_n dX12_push_36 (.head _) rfl (.tail _ (.head _)) t_0) okNil)) MX12_layWaiting cf_X12_layWaiting ci_12 rfl kc_X12_layWaiting km_X12_273 ki_X12_layWaiting kv_X12_layWaiting kn_X12 (Nat.le_of_ble_eq_true rfl) (Nat.le_of_ble_eq_true rfl) dX12_push_37 (.head _) rfl)
set_option maxRecDepth 100000 in
theorem ocX12_push_1 : OkC YX12_push [(0, 2), (1, 0), (2, 0)] 0 0 [35] [43] cX12_push_1 := by
  unfold cX12_push_1
  exact (okAnd (p1 := 14) (okAnd (p1 := 7) (okCZf (p1 := 4) (τa := 0) (okF (p1 := 1) (k := 44) (ok_aload_n dX12_push_0 (.head _) rfl (.head _)) ci_12 (by decide) kf_X12_263 dX12_push_1 (.head _) rfl rfl) (j_if_le dX12_push_4 rfl) nq_gt (.head _) (.head _)) (okCBf (p1 := 8) (p2 := 11) (τa := 0) (τb := 0) (ok_iload_n dX12_push_7 (.head _) rfl (.tail _ (.tail _ (.head _))) t_0) (ok_sipush dX12_push_8 (.head _) ⟨by decide, by decide⟩) (j_icmp_eq dX12_push_11 rfl) nq_ne (.head _) (.head _))) (okCBf (p1 := 28) (p2 := 32) (τa := 0) (τb := 0) (okCallS (p1 := 25) (okCons (p1 := 25) (ok_iaload (.inr rfl) (p1 := 18) (p2 := 24) (okF (p1 := 15) (k := 43) (ok_aload_n dX12_push_14 (.head _) rfl (.head _)) ci_12 (by decide) kf_X12_107 dX12_push_15 (.head _) rfl rfl) (okE2 (p1 := 22) (p2 := 23) (τa := 0) (τb := 0) (okF (p1 := 19) (k := 44) (ok_aload_n dX12_push_18 (.head _) rfl (.head _)) ci_12 (by decide) kf_X12_263 dX12_push_19 (.head _) rfl rfl) (ok_iconst dX12_push_22 (.head _) (irn (by decide) (by decide))) (s_isub dX12_push_23 (.head _))) dX12_push_24 (.head _)) okNil) MX12_bindsBy cf_X12_bindsBy rfl kc_X12_bindsBy km_X12_270 ks_X12_bindsBy kn_X12 (Nat.le_of_ble_eq_true rfl) (Nat.le_of_ble_eq_true rfl) dX12_push_25 (.head _) (by decide) rfl (by decide)) (okCallS (p1 := 29) (okCons (p1 := 29) (ok_iload_n dX12_push_28 (.head _) rfl (.tail _ (.tail _ (.head _))) t_0) okNil) MX12_bindsBy cf_X12_bindsBy rfl kc_X12_bindsBy km_X12_270 ks_X12_bindsBy kn_X12 (Nat.le_of_ble_eq_true rfl) (Nat.le_of_ble_eq_true rfl) dX12_push_29 (.head _) (by decide) rfl (by decide)) (j_icmp_lt dX12_push_32 rfl) nq_ge (.head _) (.head _)))
set_option maxRecDepth 100000 in
theorem ouX12_push_1 : ∀ t ∈ ([40, 0] : List Nat), OkS YX12_push [(0, 2), (1, 0), (2, 0)] [(0, 2), (1, 0), (2, 0)] t [0] [] [] [] [] uX12_push_1 := by
  unfold uX12_push_1
  exact (List.forall_mem_cons.mpr ⟨okGo dX12_push_40 (tg := 0) rfl (okSkip (.head _)), one (okSkip (.head _))⟩)
def sX12_push : QT :=
 (sSeq (sWhile cX12_push_1 bX12_push_1 uX12_push_1)
 (sSeq (sArr 40 (eF 12 43 (eV 0)) (eF 12 44 (eV 0)) (eV 2))
 (sSeq (sPutC 12 44 (eV 0) iA (eI 1))
 sRetV)))
set_option maxRecDepth 100000 in
theorem oX12_push : OkS YX12_push [(0, 2), (1, 0), (2, 0)] [(0, 2), (1, 0), (2, 0)] 0 [] [] [] [] [] sX12_push := by
  unfold sX12_push
  exact (okSeq (p1 := 43) (Γ1 := [(0, 2), (1, 0), (2, 0)]) (okWhile (T := [35]) (F := [43]) (Eb := [40, 0]) ocX12_push_1 (fun _ h => h) (one obX12_push_1) ouX12_push_1)
 (okSeq (p1 := 53) (Γ1 := [(0, 2), (1, 0), (2, 0)]) (okArr (p1 := 47) (p2 := 51) (p3 := 52) (by decide) (okF (p1 := 44) (k := 43) (ok_aload_n dX12_push_43 (.head _) rfl (.head _)) ci_12 (by decide) kf_X12_107 dX12_push_44 (.head _) rfl rfl) (okF (p1 := 48) (k := 44) (ok_aload_n dX12_push_47 (.head _) rfl (.head _)) ci_12 (by decide) kf_X12_263 dX12_push_48 (.head _) rfl rfl) (ok_iload_n dX12_push_51 (.head _) rfl (.tail _ (.tail _ (.head _))) t_0) dX12_push_52 (.head _))
 (okSeq (p1 := 63) (Γ1 := [(0, 2), (1, 0), (2, 0)]) (okPutC (p1 := 54) (p2 := 59) (p3 := 60) (k := 44) (τ := 0) (τb := 0) (ok_aload_n dX12_push_53 (.head _) rfl (.head _)) dX12_push_54 dX12_push_55 (ok_iconst dX12_push_58 (.head _) (irn (by decide) (by decide))) (s_iadd dX12_push_59 (.head _)) rfl ci_12 (by decide) kf_X12_263 rfl (fun z _ => qfit_int z) dX12_push_60 (.head _) rfl)
 (okRetV rfl dX12_push_63))))
def mX12_push : QM := qM [2, 0, 0] sX12_push
theorem MX12_push : MetY YX12_push yX12_push none [2, 0, 0] mX12_push := metY_of rfl (by decide +kernel) (.inr (.inr (.inr (.inl ⟨rfl, rfl⟩)))) (by decide) oX12_push

abbrev YX12_readUnit : YT := (RX12, cX12_readUnit, 3, 3, 67, 3)
theorem cf_X12_readUnit : CF yX12_readUnit 1 := ⟨by decide +kernel, by decide +kernel, by decide +kernel⟩
def sX12_readUnit : QT :=
 (sSeq (sSet 2 (eCallV 12 mX12_isAt [(eV 0), (eI 40)]))
 (sSeq (sIf (cAnd (cAnd (cNot (cE (eV 2))) (cNot (cE (eCallV 12 mX12_isName [(eV 0)])))) (cB qne (eF 12 34 (eV 0)) (eI 3))) (sDo (eCallV 12 mX12_fail [(eV 0), (eI 1)])) (sIf (cAnd (cB qeq (eF 12 34 (eV 0)) (eI 3)) (cB qgt (eF 12 35 (eV 0)) (eI 9999))) (sDo (eCallV 12 mX12_fail [(eV 0), (eI 2)])) (sIf (cAnd (cE (eCallV 12 mX12_isName [(eV 0)])) (cB qlt (eCallV 12 mX12_nameHere [(eV 0)]) (eI 0))) (sDo (eCallV 12 mX12_fail [(eV 0), (eI 3)])) (sIf (cOr (cB qeq (eA 40 (eF 12 5 (eV 0)) (eV 1)) (eI 30)) (cB qgt (eF 12 45 (eV 0)) (eI 4))) (sDo (eCallV 12 mX12_fail [(eV 0), (eI 4)])) sSkip))))
 (sSeq (sIf (cB qgt (eF 12 37 (eV 0)) (eI 0)) (sRet (eI 0)) sSkip)
 (sSeq (sArrC 40 (eF 12 5 (eV 0)) (eV 1) iA (eI 1))
 (sSeq (sIf (cE (eV 2)) (sSeq (sDo (eCallV 12 mX12_push [(eV 0), (eV 1), (eI 10025)]))
 (sPutC 12 45 (eV 0) iA (eI 1))) (sDo (eCallV 12 mX12_lay [(eV 0), (eV 1), (eIf (cB qeq (eF 12 34 (eV 0)) (eI 3)) (eF 12 35 (eV 0)) (eIf (cB qlt (eCallV 12 mX12_nameHere [(eV 0)]) (eI 10)) (e2 iA (eI 10000) (eCallV 12 mX12_nameHere [(eV 0)])) (e2 iS (e2 iA (eI 10010) (eCallV 12 mX12_nameHere [(eV 0)])) (eI 10))))])))
 (sSeq (sDo (eCallV 12 mX12_scan [(eV 0)]))
 (sRet (eV 2))))))))
set_option maxRecDepth 100000 in
theorem oX12_readUnit : OkS YX12_readUnit [(0, 2), (1, 0)] [(0, 2), (1, 0), (2, 3)] 0 [] [] [] [] [] sX12_readUnit := by
  unfold sX12_readUnit
  exact (okSeq (p1 := 7) (Γ1 := [(0, 2), (1, 0), (2, 3)]) (ok_istore_n (Γ' := [(0, 2), (1, 0), (2, 3)]) (p1 := 6) (τ := 3) (okCallV (p1 := 3) (okCons (p1 := 1) (ok_aload_n dX12_readUnit_0 (.head _) rfl (.head _)) (okCons (p1 := 3) (ok_bipush dX12_readUnit_1 (.head _) (irn4 (by decide) (by decide))) okNil)) MX12_isAt cf_X12_isAt ci_12 rfl kc_X12_isAt km_X12_201 ki_X12_isAt kv_X12_isAt kn_X12 (Nat.le_of_ble_eq_true rfl) (Nat.le_of_ble_eq_true rfl) dX12_readUnit_3 (.head _) (by decide) rfl (by decide)) t_3 dX12_readUnit_6 rfl (by decide) (.head _) (by decide))
 (okSeq (p1 := 106) (Γ1 := [(0, 2), (1, 0), (2, 3)]) (okIf (Γ' := [(0, 2), (1, 0), (2, 3)]) (T := [26]) (F := [34]) (okAnd (p1 := 18) (okAnd (p1 := 11) (okNot (okCEt (p1 := 8) (okI (τ := 3) (ok_iload_n dX12_readUnit_7 (.head _) rfl (.tail _ (.tail _ (.head _))) t_3) t_3) (j_if_ne dX12_readUnit_8 rfl) (.head _) (.head _))) (okNot (okCEt (p1 := 15) (okI (τ := 3) (okCallV (p1 := 12) (okCons (p1 := 12) (ok_aload_n dX12_readUnit_11 (.head _) rfl (.head _)) okNil) MX12_isName cf_X12_isName ci_12 rfl kc_X12_isName km_X12_223 ki_X12_isName kv_X12_isName kn_X12 (Nat.le_of_ble_eq_true rfl) (Nat.le_of_ble_eq_true rfl) dX12_readUnit_12 (.head _) (by decide) rfl (by decide)) t_3) (j_if_ne dX12_readUnit_15 rfl) (.head _) (.head _)))) (okCBf (p1 := 22) (p2 := 23) (τa := 0) (τb := 0) (okF (p1 := 19) (k := 34) (ok_aload_n dX12_readUnit_18 (.head _) rfl (.head _)) ci_12 (by decide) kf_X12_166 dX12_readUnit_19 (.head _) rfl rfl) (ok_iconst dX12_readUnit_22 (.head _) (irn (by decide) (by decide))) (j_icmp_eq dX12_readUnit_23 rfl) nq_ne (.head _) (.head _))) (one (okEnd (p1 := 31) (tg := 106) (okDoV (p1 := 28) (okCons (p1 := 27) (ok_aload_n dX12_readUnit_26 (.head _) rfl (.head _)) (okCons (p1 := 28) (ok_iconst dX12_readUnit_27 (.head _) (irn (by decide) (by decide))) okNil)) MX12_fail cf_X12_fail ci_12 rfl kc_X12_fail km_X12_207 ki_X12_fail kv_X12_fail kn_X12 (Nat.le_of_ble_eq_true rfl) (Nat.le_of_ble_eq_true rfl) dX12_readUnit_28 (.head _) rfl) dX12_readUnit_31 rfl (.head _))) (one (okIf (Γ' := [(0, 2), (1, 0), (2, 3)]) (T := [52]) (F := [60]) (okAnd (p1 := 42) (okCBf (p1 := 38) (p2 := 39) (τa := 0) (τb := 0) (okF (p1 := 35) (k := 34) (ok_aload_n dX12_readUnit_34 (.head _) rfl (.head _)) ci_12 (by decide) kf_X12_166 dX12_readUnit_35 (.head _) rfl rfl) (ok_iconst dX12_readUnit_38 (.head _) (irn (by decide) (by decide))) (j_icmp_ne dX12_readUnit_39 rfl) nq_eq (.head _) (.head _)) (okCBf (p1 := 46) (p2 := 49) (τa := 0) (τb := 0) (okF (p1 := 43) (k := 35) (ok_aload_n dX12_readUnit_42 (.head _) rfl (.head _)) ci_12 (by decide) kf_X12_191 dX12_readUnit_43 (.head _) rfl rfl) (ok_sipush dX12_readUnit_46 (.head _) ⟨by decide, by decide⟩) (j_icmp_le dX12_readUnit_49 rfl) nq_gt (.head _) (.head _))) (one (okEnd (p1 := 57) (tg := 106) (okDoV (p1 := 54) (okCons (p1 := 53) (ok_aload_n dX12_readUnit_52 (.head _) rfl (.head _)) (okCons (p1 := 54) (ok_iconst dX12_readUnit_53 (.head _) (irn (by decide) (by decide))) okNil)) MX12_fail cf_X12_fail ci_12 rfl kc_X12_fail km_X12_207 ki_X12_fail kv_X12_fail kn_X12 (Nat.le_of_ble_eq_true rfl) (Nat.le_of_ble_eq_true rfl) dX12_readUnit_54 (.head _) rfl) dX12_readUnit_57 rfl (.head _))) (one (okIf (Γ' := [(0, 2), (1, 0), (2, 3)]) (T := [74]) (F := [82]) (okAnd (p1 := 67) (okCEf (p1 := 64) (okI (τ := 3) (okCallV (p1 := 61) (okCons (p1 := 61) (ok_aload_n dX12_readUnit_60 (.head _) rfl (.head _)) okNil) MX12_isName cf_X12_isName ci_12 rfl kc_X12_isName km_X12_223 ki_X12_isName kv_X12_isName kn_X12 (Nat.le_of_ble_eq_true rfl) (Nat.le_of_ble_eq_true rfl) dX12_readUnit_61 (.head _) (by decide) rfl (by decide)) t_3) (j_if_eq dX12_readUnit_64 rfl) (.head _) (.head _)) (okCZf (p1 := 71) (τa := 0) (okCallV (p1 := 68) (okCons (p1 := 68) (ok_aload_n dX12_readUnit_67 (.head _) rfl (.head _)) okNil) MX12_nameHere cf_X12_nameHere ci_12 rfl kc_X12_nameHere km_X12_227 ki_X12_nameHere kv_X12_nameHere kn_X12 (Nat.le_of_ble_eq_true rfl) (Nat.le_of_ble_eq_true rfl) dX12_readUnit_68 (.head _) (by decide) rfl (by decide)) (j_if_ge dX12_readUnit_71 rfl) nq_lt (.head _) (.head _))) (one (okEnd (p1 := 79) (tg := 106) (okDoV (p1 := 76) (okCons (p1 := 75) (ok_aload_n dX12_readUnit_74 (.head _) rfl (.head _)) (okCons (p1 := 76) (ok_iconst dX12_readUnit_75 (.head _) (irn (by decide) (by decide))) okNil)) MX12_fail cf_X12_fail ci_12 rfl kc_X12_fail km_X12_207 ki_X12_fail kv_X12_fail kn_X12 (Nat.le_of_ble_eq_true rfl) (Nat.le_of_ble_eq_true rfl) dX12_readUnit_76 (.head _) rfl) dX12_readUnit_79 rfl (.head _))) (one (okIf (Γ' := [(0, 2), (1, 0), (2, 3)]) (T := [101]) (F := [106]) (okOr (p1 := 93) (okCBt (p1 := 88) (p2 := 90) (τa := 0) (τb := 0) (ok_iaload (.inr rfl) (p1 := 86) (p2 := 87) (okF (p1 := 83) (k := 5) (ok_aload_n dX12_readUnit_82 (.head _) rfl (.head _)) ci_12 (by decide) kf_X12_26 dX12_readUnit_83 (.head _) rfl rfl) (ok_iload_n dX12_readUnit_86 (.head _) rfl (.tail _ (.head _)) t_0) dX12_readUnit_87 (.head _)) (ok_bipush dX12_readUnit_88 (.head _) (irn4 (by decide) (by decide))) (j_icmp_eq dX12_readUnit_90 rfl) (.head _) (.head _)) (okCBf (p1 := 97) (p2 := 98) (τa := 0) (τb := 0) (okF (p1 := 94) (k := 45) (ok_aload_n dX12_readUnit_93 (.head _) rfl (.head _)) ci_12 (by decide) kf_X12_276 dX12_readUnit_94 (.head _) rfl rfl) (ok_iconst dX12_readUnit_97 (.head _) (irn (by decide) (by decide))) (j_icmp_le dX12_readUnit_98 rfl) nq_gt (.head _) (.head _))) (one (okDoV (p1 := 103) (okCons (p1 := 102) (ok_aload_n dX12_readUnit_101 (.head _) rfl (.head _)) (okCons (p1 := 103) (ok_iconst dX12_readUnit_102 (.head _) (irn (by decide) (by decide))) okNil)) MX12_fail cf_X12_fail ci_12 rfl kc_X12_fail km_X12_207 ki_X12_fail kv_X12_fail kn_X12 (Nat.le_of_ble_eq_true rfl) (Nat.le_of_ble_eq_true rfl) dX12_readUnit_103 (.head _) rfl)) (fun t ht => okSkip ht))))))))
 (okSeq (p1 := 115) (Γ1 := [(0, 2), (1, 0), (2, 3)]) (okIf (Γ' := [(0, 2), (1, 0), (2, 3)]) (T := [113]) (F := [115]) (okCZf (p1 := 110) (τa := 0) (okF (p1 := 107) (k := 37) (ok_aload_n dX12_readUnit_106 (.head _) rfl (.head _)) ci_12 (by decide) kf_X12_195 dX12_readUnit_107 (.head _) rfl rfl) (j_if_le dX12_readUnit_110 rfl) nq_gt (.head _) (.head _)) (one (okRet (p1 := 114) (τ := 3) (ok_zconst dX12_readUnit_113 (.head _) ⟨by decide, by decide⟩) rfl (by decide) dX12_readUnit_114)) (fun t ht => okSkip ht))
 (okSeq (p1 := 125) (Γ1 := [(0, 2), (1, 0), (2, 3)]) (okArrC (p1 := 119) (p2 := 120) (p3 := 123) (p4 := 124) (τb := 0) (by decide) (okF (p1 := 116) (k := 5) (ok_aload_n dX12_readUnit_115 (.head _) rfl (.head _)) ci_12 (by decide) kf_X12_26 dX12_readUnit_116 (.head _) rfl rfl) (ok_iload_n dX12_readUnit_119 (.head _) rfl (.tail _ (.head _)) t_0) dX12_readUnit_120 dX12_readUnit_121 (ok_iconst dX12_readUnit_122 (.head _) (irn (by decide) (by decide))) (s_iadd dX12_readUnit_123 (.head _)) dX12_readUnit_124 (.head _))
 (okSeq (p1 := 201) (Γ1 := [(0, 2), (1, 0), (2, 3)]) (okIf (Γ' := [(0, 2), (1, 0), (2, 3)]) (T := [129]) (F := [150]) (okCEf (p1 := 126) (okI (τ := 3) (ok_iload_n dX12_readUnit_125 (.head _) rfl (.tail _ (.tail _ (.head _))) t_3) t_3) (j_if_eq dX12_readUnit_126 rfl) (.head _) (.head _)) (one (okEnd (p1 := 147) (tg := 201) (okSeq (p1 := 137) (Γ1 := [(0, 2), (1, 0), (2, 3)]) (okDoV (p1 := 134) (okCons (p1 := 130) (ok_aload_n dX12_readUnit_129 (.head _) rfl (.head _)) (okCons (p1 := 131) (ok_iload_n dX12_readUnit_130 (.head _) rfl (.tail _ (.head _)) t_0) (okCons (p1 := 134) (ok_sipush dX12_readUnit_131 (.head _) ⟨by decide, by decide⟩) okNil))) MX12_push cf_X12_push ci_12 rfl kc_X12_push km_X12_285 ki_X12_push kv_X12_push kn_X12 (Nat.le_of_ble_eq_true rfl) (Nat.le_of_ble_eq_true rfl) dX12_readUnit_134 (.head _) rfl)
 (okPutC (p1 := 138) (p2 := 143) (p3 := 144) (k := 45) (τ := 0) (τb := 0) (ok_aload_n dX12_readUnit_137 (.head _) rfl (.head _)) dX12_readUnit_138 dX12_readUnit_139 (ok_iconst dX12_readUnit_142 (.head _) (irn (by decide) (by decide))) (s_iadd dX12_readUnit_143 (.head _)) rfl ci_12 (by decide) kf_X12_276 rfl (fun z _ => qfit_int z) dX12_readUnit_144 (.head _) rfl)) dX12_readUnit_147 rfl (.head _))) (one (okDoV (p1 := 198) (okCons (p1 := 151) (ok_aload_n dX12_readUnit_150 (.head _) rfl (.head _)) (okCons (p1 := 152) (ok_iload_n dX12_readUnit_151 (.head _) rfl (.tail _ (.head _)) t_0) (okCons (p1 := 198) (okIfE (pt := 160) (pf := 167) (p1 := 164) (pe := 198) (okCBf (p1 := 156) (p2 := 157) (τa := 0) (τb := 0) (okF (p1 := 153) (k := 34) (ok_aload_n dX12_readUnit_152 (.head _) rfl (.head _)) ci_12 (by decide) kf_X12_166 dX12_readUnit_153 (.head _) rfl rfl) (ok_iconst dX12_readUnit_156 (.head _) (irn (by decide) (by decide))) (j_icmp_ne dX12_readUnit_157 rfl) nq_eq (.head _) (.head _)) (okF (p1 := 161) (k := 35) (ok_aload_n dX12_readUnit_160 (.head _) rfl (.head _)) ci_12 (by decide) kf_X12_191 dX12_readUnit_161 (.head _) rfl rfl) dX12_readUnit_164 rfl (.head _) (okIfE (pt := 176) (pf := 187) (p1 := 184) (pe := 198) (okCBf (p1 := 171) (p2 := 173) (τa := 0) (τb := 0) (okCallV (p1 := 168) (okCons (p1 := 168) (ok_aload_n dX12_readUnit_167 (.head _) rfl (.head _)) okNil) MX12_nameHere cf_X12_nameHere ci_12 rfl kc_X12_nameHere km_X12_227 ki_X12_nameHere kv_X12_nameHere kn_X12 (Nat.le_of_ble_eq_true rfl) (Nat.le_of_ble_eq_true rfl) dX12_readUnit_168 (.head _) (by decide) rfl (by decide)) (ok_bipush dX12_readUnit_171 (.head _) (irn4 (by decide) (by decide))) (j_icmp_ge dX12_readUnit_173 rfl) nq_lt (.head _) (.head _)) (okE2 (p1 := 179) (p2 := 183) (τa := 0) (τb := 0) (ok_sipush dX12_readUnit_176 (.head _) ⟨by decide, by decide⟩) (okCallV (p1 := 180) (okCons (p1 := 180) (ok_aload_n dX12_readUnit_179 (.head _) rfl (.head _)) okNil) MX12_nameHere cf_X12_nameHere ci_12 rfl kc_X12_nameHere km_X12_227 ki_X12_nameHere kv_X12_nameHere kn_X12 (Nat.le_of_ble_eq_true rfl) (Nat.le_of_ble_eq_true rfl) dX12_readUnit_180 (.head _) (by decide) rfl (by decide)) (s_iadd dX12_readUnit_183 (.head _))) dX12_readUnit_184 rfl (.head _) (okE2 (p1 := 195) (p2 := 197) (τa := 0) (τb := 0) (okE2 (p1 := 190) (p2 := 194) (τa := 0) (τb := 0) (ok_sipush dX12_readUnit_187 (.head _) ⟨by decide, by decide⟩) (okCallV (p1 := 191) (okCons (p1 := 191) (ok_aload_n dX12_readUnit_190 (.head _) rfl (.head _)) okNil) MX12_nameHere cf_X12_nameHere ci_12 rfl kc_X12_nameHere km_X12_227 ki_X12_nameHere kv_X12_nameHere kn_X12 (Nat.le_of_ble_eq_true rfl) (Nat.le_of_ble_eq_true rfl) dX12_readUnit_191 (.head _) (by decide) rfl (by decide)) (s_iadd dX12_readUnit_194 (.head _))) (ok_bipush dX12_readUnit_195 (.head _) (irn4 (by decide) (by decide))) (s_isub dX12_readUnit_197 (.head _))))) okNil))) MX12_lay cf_X12_lay ci_12 rfl kc_X12_lay km_X12_266 ki_X12_lay kv_X12_lay kn_X12 (Nat.le_of_ble_eq_true rfl) (Nat.le_of_ble_eq_true rfl) dX12_readUnit_198 (.head _) rfl)))
 (okSeq (p1 := 205) (Γ1 := [(0, 2), (1, 0), (2, 3)]) (okDoV (p1 := 202) (okCons (p1 := 202) (ok_aload_n dX12_readUnit_201 (.head _) rfl (.head _)) okNil) MX12_scan cf_X12_scan ci_12 rfl kc_X12_scan km_X12_204 ki_X12_scan kv_X12_scan kn_X12 (Nat.le_of_ble_eq_true rfl) (Nat.le_of_ble_eq_true rfl) dX12_readUnit_202 (.head _) rfl)
 (okRet (p1 := 206) (τ := 3) (ok_iload_n dX12_readUnit_205 (.head _) rfl (.tail _ (.tail _ (.head _))) t_3) rfl (by decide) dX12_readUnit_206)))))))
def mX12_readUnit : QM := qM [2, 0] sX12_readUnit
theorem MX12_readUnit : MetY YX12_readUnit yX12_readUnit (some .boolean) [2, 0] mX12_readUnit := metY_of rfl (by decide +kernel) (.inr (.inl ⟨rfl, rfl⟩)) (by decide) oX12_readUnit

abbrev YX12_readUnits : YT := (RX12, cX12_readUnits, 4, 4, 89, 9)
theorem cf_X12_readUnits : CF yX12_readUnits 1 := ⟨by decide +kernel, by decide +kernel, by decide +kernel⟩
def cX12_readUnits_2 : QC :=
 (cB qne (eA 40 (eF 12 43 (eV 0)) (e2 iS (eF 12 44 (eV 0)) (eI 1))) (eI 10025))
def bX12_readUnits_2 : QT :=
 (sDo (eCallV 12 mX12_layWaiting [(eV 0), (eV 1)]))
def uX12_readUnits_2 : QT :=
 sSkip
set_option maxRecDepth 100000 in
theorem obX12_readUnits_2 : OkS YX12_readUnits [(0, 2), (1, 0), (2, 3), (3, 3)] [(0, 2), (1, 0), (2, 3), (3, 3)] 71 [76, 54] [(0, 2), (1, 0), (2, 3), (3, 3)] [79] [(0, 2), (1, 0), (2, 3), (3, 3)] [76, 54] bX12_readUnits_2 := by
  unfold bX12_readUnits_2
  exact (okDoV (p1 := 73) (okCons (p1 := 72) (ok_aload_n dX12_readUnits_71 (.head _) rfl (.head _)) (okCons (p1 := 73) (ok_iload_n dX12_readUnits_72 (.head _) rfl (.tail _ (.head _)) t_0) okNil)) MX12_layWaiting cf_X12_layWaiting ci_12 rfl kc_X12_layWaiting km_X12_273 ki_X12_layWaiting kv_X12_layWaiting kn_X12 (Nat.le_of_ble_eq_true rfl) (Nat.le_of_ble_eq_true rfl) dX12_readUnits_73 (.head _) rfl)
set_option maxRecDepth 100000 in
theorem ocX12_readUnits_2 : OkC YX12_readUnits [(0, 2), (1, 0), (2, 3), (3, 3)] 0 54 [71] [79] cX12_readUnits_2 := by
  unfold cX12_readUnits_2
  exact (okCBf (p1 := 65) (p2 := 68) (τa := 0) (τb := 0) (ok_iaload (.inr rfl) (p1 := 58) (p2 := 64) (okF (p1 := 55) (k := 43) (ok_aload_n dX12_readUnits_54 (.head _) rfl (.head _)) ci_12 (by decide) kf_X12_107 dX12_readUnits_55 (.head _) rfl rfl) (okE2 (p1 := 62) (p2 := 63) (τa := 0) (τb := 0) (okF (p1 := 59) (k := 44) (ok_aload_n dX12_readUnits_58 (.head _) rfl (.head _)) ci_12 (by decide) kf_X12_263 dX12_readUnits_59 (.head _) rfl rfl) (ok_iconst dX12_readUnits_62 (.head _) (irn (by decide) (by decide))) (s_isub dX12_readUnits_63 (.head _))) dX12_readUnits_64 (.head _)) (ok_sipush dX12_readUnits_65 (.head _) ⟨by decide, by decide⟩) (j_icmp_eq dX12_readUnits_68 rfl) nq_ne (.head _) (.head _))
set_option maxRecDepth 100000 in
theorem ouX12_readUnits_2 : ∀ t ∈ ([76, 54] : List Nat), OkS YX12_readUnits [(0, 2), (1, 0), (2, 3), (3, 3)] [(0, 2), (1, 0), (2, 3), (3, 3)] t [54] [] [] [] [] uX12_readUnits_2 := by
  unfold uX12_readUnits_2
  exact (List.forall_mem_cons.mpr ⟨okGo dX12_readUnits_76 (tg := 54) rfl (okSkip (.head _)), one (okSkip (.head _))⟩)
def cX12_readUnits_1 : QC :=
 (cAnd (cB qeq (eF 12 37 (eV 0)) (eI 0)) (cE (eV 3)))
def bX12_readUnits_1 : QT :=
 (sIf (cE (eV 2)) (sSet 2 (eCallV 12 mX12_readUnit [(eV 0), (eV 1)])) (sIf (cAnd (cE (eCallV 12 mX12_isAt [(eV 0), (eI 41)])) (cB qgt (eF 12 45 (eV 0)) (eI 0))) (sSeq (sWhile cX12_readUnits_2 bX12_readUnits_2 uX12_readUnits_2)
 (sSeq (sPutC 12 44 (eV 0) iS (eI 1))
 (sSeq (sPutC 12 45 (eV 0) iS (eI 1))
 (sDo (eCallV 12 mX12_scan [(eV 0)]))))) (sIf (cB qne (eCallV 12 mX12_between [(eV 0)]) (eI (-1))) (sSeq (sDo (eCallV 12 mX12_push [(eV 0), (eV 1), (eCallV 12 mX12_between [(eV 0)])]))
 (sSeq (sDo (eCallV 12 mX12_scan [(eV 0)]))
 (sSet 2 (eI 1)))) (sSet 3 (eI 0)))))
def uX12_readUnits_1 : QT :=
 sSkip
set_option maxRecDepth 100000 in
theorem obX12_readUnits_1 : OkS YX12_readUnits [(0, 2), (1, 0), (2, 3), (3, 3)] [(0, 2), (1, 0), (2, 3), (3, 3)] 25 [134, 14] [(0, 2), (1, 0), (2, 3), (3, 3)] [137] [(0, 2), (1, 0), (2, 3), (3, 3)] [134, 14] bX12_readUnits_1 := by
  unfold bX12_readUnits_1
  exact (okIf (Γ' := [(0, 2), (1, 0), (2, 3), (3, 3)]) (T := [29]) (F := [38]) (okCEf (p1 := 26) (okI (τ := 3) (ok_iload_n dX12_readUnits_25 (.head _) rfl (.tail _ (.tail _ (.head _))) t_3) t_3) (j_if_eq dX12_readUnits_26 rfl) (.head _) (.head _)) (one (okEnd (p1 := 35) (tg := 14) (okWeak (Γ1 := [(0, 2), (1, 0), (3, 3), (2, 3)]) (ok_istore_n (Γ' := [(0, 2), (1, 0), (3, 3), (2, 3)]) (p1 := 34) (τ := 3) (okCallV (p1 := 31) (okCons (p1 := 30) (ok_aload_n dX12_readUnits_29 (.head _) rfl (.head _)) (okCons (p1 := 31) (ok_iload_n dX12_readUnits_30 (.head _) rfl (.tail _ (.head _)) t_0) okNil)) MX12_readUnit cf_X12_readUnit ci_12 rfl kc_X12_readUnit km_X12_279 ki_X12_readUnit kv_X12_readUnit kn_X12 (Nat.le_of_ble_eq_true rfl) (Nat.le_of_ble_eq_true rfl) dX12_readUnits_31 (.head _) (by decide) rfl (by decide)) t_3 dX12_readUnits_34 rfl (by decide) (.head _) (by decide)) (by decide)) dX12_readUnits_35 rfl (.tail _ (.head _)))) (one (okIf (Γ' := [(0, 2), (1, 0), (2, 3), (3, 3)]) (T := [54]) (F := [106]) (okAnd (p1 := 47) (okCEf (p1 := 44) (okI (τ := 3) (okCallV (p1 := 41) (okCons (p1 := 39) (ok_aload_n dX12_readUnits_38 (.head _) rfl (.head _)) (okCons (p1 := 41) (ok_bipush dX12_readUnits_39 (.head _) (irn4 (by decide) (by decide))) okNil)) MX12_isAt cf_X12_isAt ci_12 rfl kc_X12_isAt km_X12_201 ki_X12_isAt kv_X12_isAt kn_X12 (Nat.le_of_ble_eq_true rfl) (Nat.le_of_ble_eq_true rfl) dX12_readUnits_41 (.head _) (by decide) rfl (by decide)) t_3) (j_if_eq dX12_readUnits_44 rfl) (.head _) (.head _)) (okCZf (p1 := 51) (τa := 0) (okF (p1 := 48) (k := 45) (ok_aload_n dX12_readUnits_47 (.head _) rfl (.head _)) ci_12 (by decide) kf_X12_276 dX12_readUnits_48 (.head _) rfl rfl) (j_if_le dX12_readUnits_51 rfl) nq_gt (.head _) (.head _))) (one (okEnd (p1 := 103) (tg := 14) (okSeq (p1 := 79) (Γ1 := [(0, 2), (1, 0), (2, 3), (3, 3)]) (okWhile (T := [71]) (F := [79]) (Eb := [76, 54]) ocX12_readUnits_2 (fun _ h => h) (one obX12_readUnits_2) ouX12_readUnits_2)
 (okSeq (p1 := 89) (Γ1 := [(0, 2), (1, 0), (2, 3), (3, 3)]) (okPutC (p1 := 80) (p2 := 85) (p3 := 86) (k := 44) (τ := 0) (τb := 0) (ok_aload_n dX12_readUnits_79 (.head _) rfl (.head _)) dX12_readUnits_80 dX12_readUnits_81 (ok_iconst dX12_readUnits_84 (.head _) (irn (by decide) (by decide))) (s_isub dX12_readUnits_85 (.head _)) rfl ci_12 (by decide) kf_X12_263 rfl (fun z _ => qfit_int z) dX12_readUnits_86 (.head _) rfl)
 (okSeq (p1 := 99) (Γ1 := [(0, 2), (1, 0), (2, 3), (3, 3)]) (okPutC (p1 := 90) (p2 := 95) (p3 := 96) (k := 45) (τ := 0) (τb := 0) (ok_aload_n dX12_readUnits_89 (.head _) rfl (.head _)) dX12_readUnits_90 dX12_readUnits_91 (ok_iconst dX12_readUnits_94 (.head _) (irn (by decide) (by decide))) (s_isub dX12_readUnits_95 (.head _)) rfl ci_12 (by decide) kf_X12_276 rfl (fun z _ => qfit_int z) dX12_readUnits_96 (.head _) rfl)
 (okDoV (p1 := 100) (okCons (p1 := 100) (ok_aload_n dX12_readUnits_99 (.head _) rfl (.head _)) okNil) MX12_scan cf_X12_scan ci_12 rfl kc_X12_scan km_X12_204 ki_X12_scan kv_X12_scan kn_X12 (Nat.le_of_ble_eq_true rfl) (Nat.le_of_ble_eq_true rfl) dX12_readUnits_100 (.head _) rfl)))) dX12_readUnits_103 rfl (.tail _ (.head _)))) (one (okIf (Γ' := [(0, 2), (1, 0), (2, 3), (3, 3)]) (T := [114]) (F := [132]) (okCBf (p1 := 110) (p2 := 111) (τa := 0) (τb := 0) (okCallV (p1 := 107) (okCons (p1 := 107) (ok_aload_n dX12_readUnits_106 (.head _) rfl (.head _)) okNil) MX12_between cf_X12_between ci_12 rfl kc_X12_between km_X12_282 ki_X12_between kv_X12_between kn_X12 (Nat.le_of_ble_eq_true rfl) (Nat.le_of_ble_eq_true rfl) dX12_readUnits_107 (.head _) (by decide) rfl (by decide)) (ok_iconst dX12_readUnits_110 (.head _) (irn (by decide) (by decide))) (j_icmp_eq dX12_readUnits_111 rfl) nq_ne (.head _) (.head _)) (one (okEnd (p1 := 129) (tg := 14) (okWeak (Γ1 := [(0, 2), (1, 0), (3, 3), (2, 3)]) (okSeq (p1 := 123) (Γ1 := [(0, 2), (1, 0), (2, 3), (3, 3)]) (okDoV (p1 := 120) (okCons (p1 := 115) (ok_aload_n dX12_readUnits_114 (.head _) rfl (.head _)) (okCons (p1 := 116) (ok_iload_n dX12_readUnits_115 (.head _) rfl (.tail _ (.head _)) t_0) (okCons (p1 := 120) (okCallV (p1 := 117) (okCons (p1 := 117) (ok_aload_n dX12_readUnits_116 (.head _) rfl (.head _)) okNil) MX12_between cf_X12_between ci_12 rfl kc_X12_between km_X12_282 ki_X12_between kv_X12_between kn_X12 (Nat.le_of_ble_eq_true rfl) (Nat.le_of_ble_eq_true rfl) dX12_readUnits_117 (.head _) (by decide) rfl (by decide)) okNil))) MX12_push cf_X12_push ci_12 rfl kc_X12_push km_X12_285 ki_X12_push kv_X12_push kn_X12 (Nat.le_of_ble_eq_true rfl) (Nat.le_of_ble_eq_true rfl) dX12_readUnits_120 (.head _) rfl)
 (okSeq (p1 := 127) (Γ1 := [(0, 2), (1, 0), (2, 3), (3, 3)]) (okDoV (p1 := 124) (okCons (p1 := 124) (ok_aload_n dX12_readUnits_123 (.head _) rfl (.head _)) okNil) MX12_scan cf_X12_scan ci_12 rfl kc_X12_scan km_X12_204 ki_X12_scan kv_X12_scan kn_X12 (Nat.le_of_ble_eq_true rfl) (Nat.le_of_ble_eq_true rfl) dX12_readUnits_124 (.head _) rfl)
 (ok_istore_n (Γ' := [(0, 2), (1, 0), (3, 3), (2, 3)]) (p1 := 128) (τ := 3) (ok_zconst dX12_readUnits_127 (.head _) ⟨by decide, by decide⟩) t_3 dX12_readUnits_128 rfl (by decide) (.head _) (by decide)))) (by decide)) dX12_readUnits_129 rfl (.tail _ (.head _)))) (one (ok_istore_n (Γ' := [(0, 2), (1, 0), (2, 3), (3, 3)]) (p1 := 133) (τ := 3) (ok_zconst dX12_readUnits_132 (.head _) ⟨by decide, by decide⟩) t_3 dX12_readUnits_133 rfl (by decide) (.head _) (by decide))))))))
set_option maxRecDepth 100000 in
theorem ocX12_readUnits_1 : OkC YX12_readUnits [(0, 2), (1, 0), (2, 3), (3, 3)] 0 14 [25] [137] cX12_readUnits_1 := by
  unfold cX12_readUnits_1
  exact (okAnd (p1 := 21) (okCZf (p1 := 18) (τa := 0) (okF (p1 := 15) (k := 37) (ok_aload_n dX12_readUnits_14 (.head _) rfl (.head _)) ci_12 (by decide) kf_X12_195 dX12_readUnits_15 (.head _) rfl rfl) (j_if_ne dX12_readUnits_18 rfl) nq_eq (.head _) (.head _)) (okCEf (p1 := 22) (okI (τ := 3) (ok_iload_n dX12_readUnits_21 (.head _) rfl (.tail _ (.tail _ (.tail _ (.head _)))) t_3) t_3) (j_if_eq dX12_readUnits_22 rfl) (.head _) (.head _)))
set_option maxRecDepth 100000 in
theorem ouX12_readUnits_1 : ∀ t ∈ ([134, 14] : List Nat), OkS YX12_readUnits [(0, 2), (1, 0), (2, 3), (3, 3)] [(0, 2), (1, 0), (2, 3), (3, 3)] t [14] [] [] [] [] uX12_readUnits_1 := by
  unfold uX12_readUnits_1
  exact (List.forall_mem_cons.mpr ⟨okGo dX12_readUnits_134 (tg := 14) rfl (okSkip (.head _)), one (okSkip (.head _))⟩)
def cX12_readUnits_3 : QC :=
 (cAnd (cB qeq (eF 12 37 (eV 0)) (eI 0)) (cB qgt (eF 12 44 (eV 0)) (eI 0)))
def bX12_readUnits_3 : QT :=
 (sDo (eCallV 12 mX12_layWaiting [(eV 0), (eV 1)]))
def uX12_readUnits_3 : QT :=
 sSkip
set_option maxRecDepth 100000 in
theorem obX12_readUnits_3 : OkS YX12_readUnits [(0, 2), (1, 0), (2, 3), (3, 3)] [(0, 2), (1, 0), (2, 3), (3, 3)] 170 [175, 156] [(0, 2), (1, 0), (2, 3), (3, 3)] [178] [(0, 2), (1, 0), (2, 3), (3, 3)] [175, 156] bX12_readUnits_3 := by
  unfold bX12_readUnits_3
  exact (okDoV (p1 := 172) (okCons (p1 := 171) (ok_aload_n dX12_readUnits_170 (.head _) rfl (.head _)) (okCons (p1 := 172) (ok_iload_n dX12_readUnits_171 (.head _) rfl (.tail _ (.head _)) t_0) okNil)) MX12_layWaiting cf_X12_layWaiting ci_12 rfl kc_X12_layWaiting km_X12_273 ki_X12_layWaiting kv_X12_layWaiting kn_X12 (Nat.le_of_ble_eq_true rfl) (Nat.le_of_ble_eq_true rfl) dX12_readUnits_172 (.head _) rfl)
set_option maxRecDepth 100000 in
theorem ocX12_readUnits_3 : OkC YX12_readUnits [(0, 2), (1, 0), (2, 3), (3, 3)] 0 156 [170] [178] cX12_readUnits_3 := by
  unfold cX12_readUnits_3
  exact (okAnd (p1 := 163) (okCZf (p1 := 160) (τa := 0) (okF (p1 := 157) (k := 37) (ok_aload_n dX12_readUnits_156 (.head _) rfl (.head _)) ci_12 (by decide) kf_X12_195 dX12_readUnits_157 (.head _) rfl rfl) (j_if_ne dX12_readUnits_160 rfl) nq_eq (.head _) (.head _)) (okCZf (p1 := 167) (τa := 0) (okF (p1 := 164) (k := 44) (ok_aload_n dX12_readUnits_163 (.head _) rfl (.head _)) ci_12 (by decide) kf_X12_263 dX12_readUnits_164 (.head _) rfl rfl) (j_if_le dX12_readUnits_167 rfl) nq_gt (.head _) (.head _)))
set_option maxRecDepth 100000 in
theorem ouX12_readUnits_3 : ∀ t ∈ ([175, 156] : List Nat), OkS YX12_readUnits [(0, 2), (1, 0), (2, 3), (3, 3)] [(0, 2), (1, 0), (2, 3), (3, 3)] t [156] [] [] [] [] uX12_readUnits_3 := by
  unfold uX12_readUnits_3
  exact (List.forall_mem_cons.mpr ⟨okGo dX12_readUnits_175 (tg := 156) rfl (okSkip (.head _)), one (okSkip (.head _))⟩)
def sX12_readUnits : QT :=
 (sSeq (sPut 12 44 (eV 0) (eI 0))
 (sSeq (sPut 12 45 (eV 0) (eI 0))
 (sSeq (sSet 2 (eI 1))
 (sSeq (sSet 3 (eI 1))
 (sSeq (sWhile cX12_readUnits_1 bX12_readUnits_1 uX12_readUnits_1)
 (sSeq (sIf (cAnd (cB qeq (eF 12 37 (eV 0)) (eI 0)) (cB qgt (eF 12 45 (eV 0)) (eI 0))) (sDo (eCallV 12 mX12_fail [(eV 0), (eI 1)])) sSkip)
 (sSeq (sWhile cX12_readUnits_3 bX12_readUnits_3 uX12_readUnits_3)
 sRetV)))))))
set_option maxRecDepth 100000 in
theorem oX12_readUnits : OkS YX12_readUnits [(0, 2), (1, 0)] [(0, 2), (1, 0), (2, 3), (3, 3)] 0 [] [] [] [] [] sX12_readUnits := by
  unfold sX12_readUnits
  exact (okSeq (p1 := 5) (Γ1 := [(0, 2), (1, 0)]) (okPut (p1 := 1) (p2 := 2) (k := 44) (ok_aload_n dX12_readUnits_0 (.head _) rfl (.head _)) (ok_iconst dX12_readUnits_1 (.head _) (irn (by decide) (by decide))) rfl ci_12 (by decide) kf_X12_263 rfl (fun z _ => qfit_int z) dX12_readUnits_2 (.head _) rfl)
 (okSeq (p1 := 10) (Γ1 := [(0, 2), (1, 0)]) (okPut (p1 := 6) (p2 := 7) (k := 45) (ok_aload_n dX12_readUnits_5 (.head _) rfl (.head _)) (ok_iconst dX12_readUnits_6 (.head _) (irn (by decide) (by decide))) rfl ci_12 (by decide) kf_X12_276 rfl (fun z _ => qfit_int z) dX12_readUnits_7 (.head _) rfl)
 (okSeq (p1 := 12) (Γ1 := [(0, 2), (1, 0), (2, 3)]) (ok_istore_n (Γ' := [(0, 2), (1, 0), (2, 3)]) (p1 := 11) (τ := 3) (ok_zconst dX12_readUnits_10 (.head _) ⟨by decide, by decide⟩) t_3 dX12_readUnits_11 rfl (by decide) (.head _) (by decide))
 (okSeq (p1 := 14) (Γ1 := [(0, 2), (1, 0), (2, 3), (3, 3)]) (ok_istore_n (Γ' := [(0, 2), (1, 0), (2, 3), (3, 3)]) (p1 := 13) (τ := 3) (ok_zconst dX12_readUnits_12 (.head _) ⟨by decide, by decide⟩) t_3 dX12_readUnits_13 rfl (by decide) (.head _) (by decide))
 (okSeq (p1 := 137) (Γ1 := [(0, 2), (1, 0), (2, 3), (3, 3)]) (okWhile (T := [25]) (F := [137]) (Eb := [134, 14]) ocX12_readUnits_1 (fun _ h => h) (one obX12_readUnits_1) ouX12_readUnits_1)
 (okSeq (p1 := 156) (Γ1 := [(0, 2), (1, 0), (2, 3), (3, 3)]) (okIf (Γ' := [(0, 2), (1, 0), (2, 3), (3, 3)]) (T := [151]) (F := [156]) (okAnd (p1 := 144) (okCZf (p1 := 141) (τa := 0) (okF (p1 := 138) (k := 37) (ok_aload_n dX12_readUnits_137 (.head _) rfl (.head _)) ci_12 (by decide) kf_X12_195 dX12_readUnits_138 (.head _) rfl rfl) (j_if_ne dX12_readUnits_141 rfl) nq_eq (.head _) (.head _)) (okCZf (p1 := 148) (τa := 0) (okF (p1 := 145) (k := 45) (ok_aload_n dX12_readUnits_144 (.head _) rfl (.head _)) ci_12 (by decide) kf_X12_276 dX12_readUnits_145 (.head _) rfl rfl) (j_if_le dX12_readUnits_148 rfl) nq_gt (.head _) (.head _))) (one (okDoV (p1 := 153) (okCons (p1 := 152) (ok_aload_n dX12_readUnits_151 (.head _) rfl (.head _)) (okCons (p1 := 153) (ok_iconst dX12_readUnits_152 (.head _) (irn (by decide) (by decide))) okNil)) MX12_fail cf_X12_fail ci_12 rfl kc_X12_fail km_X12_207 ki_X12_fail kv_X12_fail kn_X12 (Nat.le_of_ble_eq_true rfl) (Nat.le_of_ble_eq_true rfl) dX12_readUnits_153 (.head _) rfl)) (fun t ht => okSkip ht))
 (okSeq (p1 := 178) (Γ1 := [(0, 2), (1, 0), (2, 3), (3, 3)]) (okWhile (T := [170]) (F := [178]) (Eb := [175, 156]) ocX12_readUnits_3 (fun _ h => h) (one obX12_readUnits_3) ouX12_readUnits_3)
 (okRetV rfl dX12_readUnits_178))))))))
def mX12_readUnits : QM := qM [2, 0] sX12_readUnits
theorem MX12_readUnits : MetY YX12_readUnits yX12_readUnits none [2, 0] mX12_readUnits := metY_of rfl (by decide +kernel) (.inr (.inr (.inr (.inl ⟨rfl, rfl⟩)))) (by decide) oX12_readUnits
