abbrev YX4_begin : YT := (RX4, cX4_begin, 2, 0, 0, 9)
theorem cf_X4_begin : CF yX4_begin 0 := ⟨by decide +kernel, by decide +kernel, by decide +kernel⟩
def cX4_begin_1 : QC :=
 (cB qlt (eV 1) (eI 24))
def bX4_begin_1 : QT :=
 (sSeq (sArr 20 (eF 4 3 (eV 0)) (eV 1) (eI 0))
 (sArr 20 (eF 4 4 (eV 0)) (eV 1) (eI 0)))
def uX4_begin_1 : QT :=
 (sInc 1 1)
set_option maxRecDepth 100000 in
theorem obX4_begin_1 : OkS YX4_begin [(0, 2), (1, 0)] [(0, 2), (1, 0)] 28 [42] [(0, 2), (1, 0)] [48] [(0, 2), (1, 0)] [42] bX4_begin_1 := by
  unfold bX4_begin_1
  exact (okSeq (p1 := 35) (Γ1 := [(0, 2), (1, 0)]) (okArr (p1 := 32) (p2 := 33) (p3 := 34) (by decide) (okF (p1 := 29) (k := 3) (ok_aload_n dX4_begin_28 (.head _) rfl (.head _)) ci_4 (by decide) kf_X4_9 dX4_begin_29 (.head _) rfl rfl) (ok_iload_n dX4_begin_32 (.head _) rfl (.tail _ (.head _)) t_0) (ok_iconst dX4_begin_33 (.head _) (irn (by decide) (by decide))) dX4_begin_34 (.head _))
 (okArr (p1 := 39) (p2 := 40) (p3 := 41) (by decide) (okF (p1 := 36) (k := 4) (ok_aload_n dX4_begin_35 (.head _) rfl (.head _)) ci_4 (by decide) kf_X4_15 dX4_begin_36 (.head _) rfl rfl) (ok_iload_n dX4_begin_39 (.head _) rfl (.tail _ (.head _)) t_0) (ok_iconst dX4_begin_40 (.head _) (irn (by decide) (by decide))) dX4_begin_41 (.head _)))
set_option maxRecDepth 100000 in
theorem ocX4_begin_1 : OkC YX4_begin [(0, 2), (1, 0)] 0 22 [28] [48] cX4_begin_1 := by
  unfold cX4_begin_1
  exact (okCBf (p1 := 23) (p2 := 25) (τa := 0) (τb := 0) (ok_iload_n dX4_begin_22 (.head _) rfl (.tail _ (.head _)) t_0) (ok_bipush dX4_begin_23 (.head _) (irn4 (by decide) (by decide))) (j_icmp_ge dX4_begin_25 rfl) nq_lt (.head _) (.head _))
set_option maxRecDepth 100000 in
theorem ouX4_begin_1 : ∀ t ∈ ([42] : List Nat), OkS YX4_begin [(0, 2), (1, 0)] [(0, 2), (1, 0)] t [22] [] [] [] [] uX4_begin_1 := by
  unfold uX4_begin_1
  exact (one (okEnd (p1 := 45) (tg := 22) (okInc (.tail _ (.head _)) dX4_begin_42 (by decide) (.head _) (by decide)) dX4_begin_45 rfl (.head _)))
def sX4_begin : QT :=
 (sSeq (sPut 4 0 (eV 0) (eI 0))
 (sSeq (sPut 4 1 (eV 0) (eI 0))
 (sSeq (sPut 4 2 (eV 0) (eI 0))
 (sSeq (sPut 4 7 (eV 0) (eI 0))
 (sSeq (sSeq (sSet 1 (eI 0))
 (sWhile cX4_begin_1 bX4_begin_1 uX4_begin_1))
 sRetV)))))
set_option maxRecDepth 100000 in
theorem oX4_begin : OkS YX4_begin [(0, 2)] [(0, 2)] 0 [] [] [] [] [] sX4_begin := by
  unfold sX4_begin
  exact (okSeq (p1 := 5) (Γ1 := [(0, 2)]) (okPut (p1 := 1) (p2 := 2) (k := 0) (ok_aload_n dX4_begin_0 (.head _) rfl (.head _)) (ok_zconst dX4_begin_1 (.head _) ⟨by decide, by decide⟩) rfl ci_4 (by decide) kf_X4_25 rfl (fun _ h => qfit_bool h) dX4_begin_2 (.head _) rfl)
 (okSeq (p1 := 10) (Γ1 := [(0, 2)]) (okPut (p1 := 6) (p2 := 7) (k := 1) (ok_aload_n dX4_begin_5 (.head _) rfl (.head _)) (ok_iconst dX4_begin_6 (.head _) (irn (by decide) (by decide))) rfl ci_4 (by decide) kf_X4_29 rfl (fun z _ => qfit_int z) dX4_begin_7 (.head _) rfl)
 (okSeq (p1 := 15) (Γ1 := [(0, 2)]) (okPut (p1 := 11) (p2 := 12) (k := 2) (ok_aload_n dX4_begin_10 (.head _) rfl (.head _)) (ok_iconst dX4_begin_11 (.head _) (irn (by decide) (by decide))) rfl ci_4 (by decide) kf_X4_33 rfl (fun z _ => qfit_int z) dX4_begin_12 (.head _) rfl)
 (okSeq (p1 := 20) (Γ1 := [(0, 2)]) (okPut (p1 := 16) (p2 := 17) (k := 7) (ok_aload_n dX4_begin_15 (.head _) rfl (.head _)) (ok_iconst dX4_begin_16 (.head _) (irn (by decide) (by decide))) rfl ci_4 (by decide) kf_X4_36 rfl (fun z _ => qfit_int z) dX4_begin_17 (.head _) rfl)
 (okSeq (p1 := 48) (Γ1 := [(0, 2)]) (okWeak (Γ1 := [(0, 2), (1, 0)]) (okSeq (p1 := 22) (Γ1 := [(0, 2), (1, 0)]) (ok_istore_n (Γ' := [(0, 2), (1, 0)]) (p1 := 21) (τ := 0) (ok_iconst dX4_begin_20 (.head _) (irn (by decide) (by decide))) t_0 dX4_begin_21 rfl (by decide) (.head _) (by decide))
 (okWhile (T := [28]) (F := [48]) (Eb := [42]) ocX4_begin_1 (fun _ h => h) (one obX4_begin_1) ouX4_begin_1)) (by decide))
 (okRetV rfl dX4_begin_48))))))
def mX4_begin : QM := qM [2] sX4_begin
theorem MX4_begin : MetY YX4_begin yX4_begin none [2] mX4_begin := metY_of rfl (by decide +kernel) (.inr (.inr (.inr (.inl ⟨rfl, rfl⟩)))) (by decide) oX4_begin

abbrev YX9_clear : YT := (RX9, cX9_clear, 1, 0, 0, 9)
theorem cf_X9_clear : CF yX9_clear 0 := ⟨by decide +kernel, by decide +kernel, by decide +kernel⟩
def sX9_clear : QT :=
 (sSeq (sPut 9 0 (eV 0) (eI 0))
 (sSeq (sPut 9 1 (eV 0) (eI 0))
 (sSeq (sPut 9 2 (eV 0) (eI 0))
 (sSeq (sPut 9 3 (eV 0) (eI (-2147483648)))
 (sSeq (sPut 9 4 (eV 0) (eI (-2147483648)))
 (sSeq (sPut 9 5 (eV 0) (eI (-2147483648)))
 sRetV))))))
set_option maxRecDepth 100000 in
theorem oX9_clear : OkS YX9_clear [(0, 2)] [(0, 2)] 0 [] [] [] [] [] sX9_clear := by
  unfold sX9_clear
  exact (okSeq (p1 := 5) (Γ1 := [(0, 2)]) (okPut (p1 := 1) (p2 := 2) (k := 0) (ok_aload_n dX9_clear_0 (.head _) rfl (.head _)) (ok_lconst0 dX9_clear_1 (.head _)) rfl ci_9 (by decide) kf_X9_22 rfl (fun z _ => qfit_long z) dX9_clear_2 (.head _) rfl)
 (okSeq (p1 := 10) (Γ1 := [(0, 2)]) (okPut (p1 := 6) (p2 := 7) (k := 1) (ok_aload_n dX9_clear_5 (.head _) rfl (.head _)) (ok_iconst dX9_clear_6 (.head _) (irn (by decide) (by decide))) rfl ci_9 (by decide) kf_X9_26 rfl (fun z _ => qfit_int z) dX9_clear_7 (.head _) rfl)
 (okSeq (p1 := 15) (Γ1 := [(0, 2)]) (okPut (p1 := 11) (p2 := 12) (k := 2) (ok_aload_n dX9_clear_10 (.head _) rfl (.head _)) (ok_iconst dX9_clear_11 (.head _) (irn (by decide) (by decide))) rfl ci_9 (by decide) kf_X9_29 rfl (fun z _ => qfit_int z) dX9_clear_12 (.head _) rfl)
 (okSeq (p1 := 21) (Γ1 := [(0, 2)]) (okPut (p1 := 16) (p2 := 18) (k := 3) (ok_aload_n dX9_clear_15 (.head _) rfl (.head _)) (ok_ldc kk_X9_9 (by decide) dX9_clear_16 (.head _)) rfl ci_9 (by decide) kf_X9_10 rfl (fun z _ => qfit_int z) dX9_clear_18 (.head _) rfl)
 (okSeq (p1 := 27) (Γ1 := [(0, 2)]) (okPut (p1 := 22) (p2 := 24) (k := 4) (ok_aload_n dX9_clear_21 (.head _) rfl (.head _)) (ok_ldc kk_X9_9 (by decide) dX9_clear_22 (.head _)) rfl ci_9 (by decide) kf_X9_16 rfl (fun z _ => qfit_int z) dX9_clear_24 (.head _) rfl)
 (okSeq (p1 := 33) (Γ1 := [(0, 2)]) (okPut (p1 := 28) (p2 := 30) (k := 5) (ok_aload_n dX9_clear_27 (.head _) rfl (.head _)) (ok_ldc kk_X9_9 (by decide) dX9_clear_28 (.head _)) rfl ci_9 (by decide) kf_X9_19 rfl (fun z _ => qfit_int z) dX9_clear_30 (.head _) rfl)
 (okRetV rfl dX9_clear_33)))))))
def mX9_clear : QM := qM [2] sX9_clear
theorem MX9_clear : MetY YX9_clear yX9_clear none [2] mX9_clear := metY_of rfl (by decide +kernel) (.inr (.inr (.inr (.inl ⟨rfl, rfl⟩)))) (by decide) oX9_clear

abbrev YX7_clearParts : YT := (RX7, cX7_clearParts, 2, 1, 20, 9)
theorem cf_X7_clearParts : CF yX7_clearParts 0 := ⟨by decide +kernel, by decide +kernel, by decide +kernel⟩
def cX7_clearParts_1 : QC :=
 (cB qlt (eV 1) (eI 4))
def bX7_clearParts_1 : QT :=
 (sDo (eCallV 9 mX9_clear [(eA 39 (eF 7 1 (eV 0)) (eV 1))]))
def uX7_clearParts_1 : QT :=
 (sInc 1 1)
set_option maxRecDepth 100000 in
theorem obX7_clearParts_1 : OkS YX7_clearParts [(0, 2), (1, 0)] [(0, 2), (1, 0)] 7 [16] [(0, 2), (1, 0)] [22] [(0, 2), (1, 0)] [16] bX7_clearParts_1 := by
  unfold bX7_clearParts_1
  exact (okDoV (p1 := 13) (okCons (p1 := 13) (ok_aaload (C := RX9) (by decide) rfl rfl (p1 := 11) (p2 := 12) (okF (p1 := 8) (k := 1) (ok_aload_n dX7_clearParts_7 (.head _) rfl (.head _)) ci_7 (by decide) kf_X7_17 dX7_clearParts_8 (.head _) rfl rfl) (ok_iload_n dX7_clearParts_11 (.head _) rfl (.tail _ (.head _)) t_0) dX7_clearParts_12 (.head _)) okNil) MX9_clear cf_X9_clear ci_9 rfl kc_X9_clear km_X7_22 ki_X9_clear kv_X9_clear kn_X9 (Nat.le_of_ble_eq_true rfl) (Nat.le_of_ble_eq_true rfl) dX7_clearParts_13 (.head _) rfl)
set_option maxRecDepth 100000 in
theorem ocX7_clearParts_1 : OkC YX7_clearParts [(0, 2), (1, 0)] 0 2 [7] [22] cX7_clearParts_1 := by
  unfold cX7_clearParts_1
  exact (okCBf (p1 := 3) (p2 := 4) (τa := 0) (τb := 0) (ok_iload_n dX7_clearParts_2 (.head _) rfl (.tail _ (.head _)) t_0) (ok_iconst dX7_clearParts_3 (.head _) (irn (by decide) (by decide))) (j_icmp_ge dX7_clearParts_4 rfl) nq_lt (.head _) (.head _))
set_option maxRecDepth 100000 in
theorem ouX7_clearParts_1 : ∀ t ∈ ([16] : List Nat), OkS YX7_clearParts [(0, 2), (1, 0)] [(0, 2), (1, 0)] t [2] [] [] [] [] uX7_clearParts_1 := by
  unfold uX7_clearParts_1
  exact (one (okEnd (p1 := 19) (tg := 2) (okInc (.tail _ (.head _)) dX7_clearParts_16 (by decide) (.head _) (by decide)) dX7_clearParts_19 rfl (.head _)))
def sX7_clearParts : QT :=
 (sSeq (sSeq (sSet 1 (eI 0))
 (sWhile cX7_clearParts_1 bX7_clearParts_1 uX7_clearParts_1))
 sRetV)
set_option maxRecDepth 100000 in
theorem oX7_clearParts : OkS YX7_clearParts [(0, 2)] [(0, 2)] 0 [] [] [] [] [] sX7_clearParts := by
  unfold sX7_clearParts
  exact (okSeq (p1 := 22) (Γ1 := [(0, 2)]) (okWeak (Γ1 := [(0, 2), (1, 0)]) (okSeq (p1 := 2) (Γ1 := [(0, 2), (1, 0)]) (ok_istore_n (Γ' := [(0, 2), (1, 0)]) (p1 := 1) (τ := 0) (ok_iconst dX7_clearParts_0 (.head _) (irn (by decide) (by decide))) t_0 dX7_clearParts_1 rfl (by decide) (.head _) (by decide))
 (okWhile (T := [7]) (F := [22]) (Eb := [16]) ocX7_clearParts_1 (fun _ h => h) (one obX7_clearParts_1) ouX7_clearParts_1)) (by decide))
 (okRetV rfl dX7_clearParts_22))
def mX7_clearParts : QM := qM [2] sX7_clearParts
theorem MX7_clearParts : MetY YX7_clearParts yX7_clearParts none [2] mX7_clearParts := metY_of rfl (by decide +kernel) (.inr (.inr (.inr (.inl ⟨rfl, rfl⟩)))) (by decide) oX7_clearParts

abbrev YX8_begin : YT := (RX8, cX8_begin, 3, 2, 41, 9)
theorem cf_X8_begin : CF yX8_begin 1 := ⟨by decide +kernel, by decide +kernel, by decide +kernel⟩
def cX8_begin_1 : QC :=
 (cB qlt (eV 2) (eI 4))
def bX8_begin_1 : QT :=
 (sSeq (sDo (eCallV 3 mX3_begin [(eA 33 (eF 8 2 (eV 0)) (eV 2)), (eA 32 (eF 6 3 (eV 1)) (eV 2))]))
 (sDo (eCallV 4 mX4_begin [(eA 34 (eF 8 3 (eV 0)) (eV 2))])))
def uX8_begin_1 : QT :=
 (sInc 2 1)
set_option maxRecDepth 100000 in
theorem obX8_begin_1 : OkS YX8_begin [(0, 2), (1, 2), (2, 0)] [(0, 2), (1, 2), (2, 0)] 17 [41] [(0, 2), (1, 2), (2, 0)] [47] [(0, 2), (1, 2), (2, 0)] [41] bX8_begin_1 := by
  unfold bX8_begin_1
  exact (okSeq (p1 := 32) (Γ1 := [(0, 2), (1, 2), (2, 0)]) (okDoV (p1 := 29) (okCons (p1 := 23) (ok_aaload (C := RX3) (by decide) rfl rfl (p1 := 21) (p2 := 22) (okF (p1 := 18) (k := 2) (ok_aload_n dX8_begin_17 (.head _) rfl (.head _)) ci_8 (by decide) kf_X8_11 dX8_begin_18 (.head _) rfl rfl) (ok_iload_n dX8_begin_21 (.head _) rfl (.tail _ (.tail _ (.head _))) t_0) dX8_begin_22 (.head _)) (okCons (p1 := 29) (ok_aaload (C := RX2) (by decide) rfl rfl (p1 := 27) (p2 := 28) (okF (p1 := 24) (k := 3) (ok_aload_n dX8_begin_23 (.head _) rfl (.tail _ (.head _))) ci_6 (by decide) kf_X8_39 dX8_begin_24 (.head _) rfl rfl) (ok_iload_n dX8_begin_27 (.head _) rfl (.tail _ (.tail _ (.head _))) t_0) dX8_begin_28 (.head _)) okNil)) MX3_begin cf_X3_begin ci_3 rfl kc_X3_begin km_X8_45 ki_X3_begin kv_X3_begin kn_X3 (Nat.le_of_ble_eq_true rfl) (Nat.le_of_ble_eq_true rfl) dX8_begin_29 (.head _) rfl)
 (okDoV (p1 := 38) (okCons (p1 := 38) (ok_aaload (C := RX4) (by decide) rfl rfl (p1 := 36) (p2 := 37) (okF (p1 := 33) (k := 3) (ok_aload_n dX8_begin_32 (.head _) rfl (.head _)) ci_8 (by decide) kf_X8_19 dX8_begin_33 (.head _) rfl rfl) (ok_iload_n dX8_begin_36 (.head _) rfl (.tail _ (.tail _ (.head _))) t_0) dX8_begin_37 (.head _)) okNil) MX4_begin cf_X4_begin ci_4 rfl kc_X4_begin km_X8_49 ki_X4_begin kv_X4_begin kn_X4 (Nat.le_of_ble_eq_true rfl) (Nat.le_of_ble_eq_true rfl) dX8_begin_38 (.head _) rfl))
set_option maxRecDepth 100000 in
theorem ocX8_begin_1 : OkC YX8_begin [(0, 2), (1, 2), (2, 0)] 0 12 [17] [47] cX8_begin_1 := by
  unfold cX8_begin_1
  exact (okCBf (p1 := 13) (p2 := 14) (τa := 0) (τb := 0) (ok_iload_n dX8_begin_12 (.head _) rfl (.tail _ (.tail _ (.head _))) t_0) (ok_iconst dX8_begin_13 (.head _) (irn (by decide) (by decide))) (j_icmp_ge dX8_begin_14 rfl) nq_lt (.head _) (.head _))
set_option maxRecDepth 100000 in
theorem ouX8_begin_1 : ∀ t ∈ ([41] : List Nat), OkS YX8_begin [(0, 2), (1, 2), (2, 0)] [(0, 2), (1, 2), (2, 0)] t [12] [] [] [] [] uX8_begin_1 := by
  unfold uX8_begin_1
  exact (one (okEnd (p1 := 44) (tg := 12) (okInc (.tail _ (.tail _ (.head _))) dX8_begin_41 (by decide) (.head _) (by decide)) dX8_begin_44 rfl (.head _)))
def cX8_begin_2 : QC :=
 (cB qlt (eV 2) (eI 4))
def bX8_begin_2 : QT :=
 (sDo (eCallV 7 mX7_clearParts [(eA 37 (eF 8 4 (eV 0)) (eV 2))]))
def uX8_begin_2 : QT :=
 (sInc 2 1)
set_option maxRecDepth 100000 in
theorem obX8_begin_2 : OkS YX8_begin [(0, 2), (1, 2), (2, 0)] [(0, 2), (1, 2), (2, 0)] 54 [63] [(0, 2), (1, 2), (2, 0)] [69] [(0, 2), (1, 2), (2, 0)] [63] bX8_begin_2 := by
  unfold bX8_begin_2
  exact (okDoV (p1 := 60) (okCons (p1 := 60) (ok_aaload (C := RX7) (by decide) rfl rfl (p1 := 58) (p2 := 59) (okF (p1 := 55) (k := 4) (ok_aload_n dX8_begin_54 (.head _) rfl (.head _)) ci_8 (by decide) kf_X8_25 dX8_begin_55 (.head _) rfl rfl) (ok_iload_n dX8_begin_58 (.head _) rfl (.tail _ (.tail _ (.head _))) t_0) dX8_begin_59 (.head _)) okNil) MX7_clearParts cf_X7_clearParts ci_7 rfl kc_X7_clearParts km_X8_51 ki_X7_clearParts kv_X7_clearParts kn_X7 (Nat.le_of_ble_eq_true rfl) (Nat.le_of_ble_eq_true rfl) dX8_begin_60 (.head _) rfl)
set_option maxRecDepth 100000 in
theorem ocX8_begin_2 : OkC YX8_begin [(0, 2), (1, 2), (2, 0)] 0 49 [54] [69] cX8_begin_2 := by
  unfold cX8_begin_2
  exact (okCBf (p1 := 50) (p2 := 51) (τa := 0) (τb := 0) (ok_iload_n dX8_begin_49 (.head _) rfl (.tail _ (.tail _ (.head _))) t_0) (ok_iconst dX8_begin_50 (.head _) (irn (by decide) (by decide))) (j_icmp_ge dX8_begin_51 rfl) nq_lt (.head _) (.head _))
set_option maxRecDepth 100000 in
theorem ouX8_begin_2 : ∀ t ∈ ([63] : List Nat), OkS YX8_begin [(0, 2), (1, 2), (2, 0)] [(0, 2), (1, 2), (2, 0)] t [49] [] [] [] [] uX8_begin_2 := by
  unfold uX8_begin_2
  exact (one (okEnd (p1 := 66) (tg := 49) (okInc (.tail _ (.tail _ (.head _))) dX8_begin_63 (by decide) (.head _) (by decide)) dX8_begin_66 rfl (.head _)))
def sX8_begin : QT :=
 (sSeq (sPut 8 0 (eV 0) (eI 0))
 (sSeq (sPut 8 1 (eV 0) (eI 0))
 (sSeq (sSeq (sSet 2 (eI 0))
 (sWhile cX8_begin_1 bX8_begin_1 uX8_begin_1))
 (sSeq (sSeq (sSet 2 (eI 0))
 (sWhile cX8_begin_2 bX8_begin_2 uX8_begin_2))
 sRetV))))
set_option maxRecDepth 100000 in
theorem oX8_begin : OkS YX8_begin [(0, 2), (1, 2)] [(0, 2), (1, 2)] 0 [] [] [] [] [] sX8_begin := by
  unfold sX8_begin
  exact (okSeq (p1 := 5) (Γ1 := [(0, 2), (1, 2)]) (okPut (p1 := 1) (p2 := 2) (k := 0) (ok_aload_n dX8_begin_0 (.head _) rfl (.head _)) (ok_iconst dX8_begin_1 (.head _) (irn (by decide) (by decide))) rfl ci_8 (by decide) kf_X8_32 rfl (fun z _ => qfit_int z) dX8_begin_2 (.head _) rfl)
 (okSeq (p1 := 10) (Γ1 := [(0, 2), (1, 2)]) (okPut (p1 := 6) (p2 := 7) (k := 1) (ok_aload_n dX8_begin_5 (.head _) rfl (.head _)) (ok_iconst dX8_begin_6 (.head _) (irn (by decide) (by decide))) rfl ci_8 (by decide) kf_X8_36 rfl (fun z _ => qfit_int z) dX8_begin_7 (.head _) rfl)
 (okSeq (p1 := 47) (Γ1 := [(0, 2), (1, 2)]) (okWeak (Γ1 := [(0, 2), (1, 2), (2, 0)]) (okSeq (p1 := 12) (Γ1 := [(0, 2), (1, 2), (2, 0)]) (ok_istore_n (Γ' := [(0, 2), (1, 2), (2, 0)]) (p1 := 11) (τ := 0) (ok_iconst dX8_begin_10 (.head _) (irn (by decide) (by decide))) t_0 dX8_begin_11 rfl (by decide) (.head _) (by decide))
 (okWhile (T := [17]) (F := [47]) (Eb := [41]) ocX8_begin_1 (fun _ h => h) (one obX8_begin_1) ouX8_begin_1)) (by decide))
 (okSeq (p1 := 69) (Γ1 := [(0, 2), (1, 2)]) (okWeak (Γ1 := [(0, 2), (1, 2), (2, 0)]) (okSeq (p1 := 49) (Γ1 := [(0, 2), (1, 2), (2, 0)]) (ok_istore_n (Γ' := [(0, 2), (1, 2), (2, 0)]) (p1 := 48) (τ := 0) (ok_iconst dX8_begin_47 (.head _) (irn (by decide) (by decide))) t_0 dX8_begin_48 rfl (by decide) (.head _) (by decide))
 (okWhile (T := [54]) (F := [69]) (Eb := [63]) ocX8_begin_2 (fun _ h => h) (one obX8_begin_2) ouX8_begin_2)) (by decide))
 (okRetV rfl dX8_begin_69)))))
def mX8_begin : QM := qM [2, 2] sX8_begin
theorem MX8_begin : MetY YX8_begin yX8_begin none [2, 2] mX8_begin := metY_of rfl (by decide +kernel) (.inr (.inr (.inr (.inl ⟨rfl, rfl⟩)))) (by decide) oX8_begin

abbrev YX10_add : YT := (RX10, cX10_add, 4, 0, 0, 9)
theorem cf_X10_add : CF yX10_add 3 := ⟨by decide +kernel, by decide +kernel, by decide +kernel⟩
def sX10_add : QT :=
 (sSeq (sIf (cB qlt (eF 10 5 (eV 0)) (eN (eF 10 2 (eV 0)))) (sSeq (sArr 20 (eF 10 2 (eV 0)) (eF 10 5 (eV 0)) (eV 1))
 (sSeq (sArr 20 (eF 10 3 (eV 0)) (eF 10 5 (eV 0)) (eV 2))
 (sSeq (sArr 20 (eF 10 4 (eV 0)) (eF 10 5 (eV 0)) (eV 3))
 (sPutC 10 5 (eV 0) iA (eI 1))))) sSkip)
 sRetV)
set_option maxRecDepth 100000 in
theorem oX10_add : OkS YX10_add [(0, 2), (1, 0), (2, 0), (3, 0)] [(0, 2), (1, 0), (2, 0), (3, 0)] 0 [] [] [] [] [] sX10_add := by
  unfold sX10_add
  exact (okSeq (p1 := 52) (Γ1 := [(0, 2), (1, 0), (2, 0), (3, 0)]) (okIf (Γ' := [(0, 2), (1, 0), (2, 0), (3, 0)]) (T := [12]) (F := [52]) (okCBf (p1 := 4) (p2 := 9) (τa := 0) (τb := 0) (okF (p1 := 1) (k := 5) (ok_aload_n dX10_add_0 (.head _) rfl (.head _)) ci_10 (by decide) kf_X10_29 dX10_add_1 (.head _) rfl rfl) (ok_alen (p1 := 8) (okF (p1 := 5) (k := 2) (ok_aload_n dX10_add_4 (.head _) rfl (.head _)) ci_10 (by decide) kf_X10_15 dX10_add_5 (.head _) rfl rfl) dX10_add_8 (.head _)) (j_icmp_ge dX10_add_9 rfl) nq_lt (.head _) (.head _)) (one (okSeq (p1 := 22) (Γ1 := [(0, 2), (1, 0), (2, 0), (3, 0)]) (okArr (p1 := 16) (p2 := 20) (p3 := 21) (by decide) (okF (p1 := 13) (k := 2) (ok_aload_n dX10_add_12 (.head _) rfl (.head _)) ci_10 (by decide) kf_X10_15 dX10_add_13 (.head _) rfl rfl) (okF (p1 := 17) (k := 5) (ok_aload_n dX10_add_16 (.head _) rfl (.head _)) ci_10 (by decide) kf_X10_29 dX10_add_17 (.head _) rfl rfl) (ok_iload_n dX10_add_20 (.head _) rfl (.tail _ (.head _)) t_0) dX10_add_21 (.head _))
 (okSeq (p1 := 32) (Γ1 := [(0, 2), (1, 0), (2, 0), (3, 0)]) (okArr (p1 := 26) (p2 := 30) (p3 := 31) (by decide) (okF (p1 := 23) (k := 3) (ok_aload_n dX10_add_22 (.head _) rfl (.head _)) ci_10 (by decide) kf_X10_19 dX10_add_23 (.head _) rfl rfl) (okF (p1 := 27) (k := 5) (ok_aload_n dX10_add_26 (.head _) rfl (.head _)) ci_10 (by decide) kf_X10_29 dX10_add_27 (.head _) rfl rfl) (ok_iload_n dX10_add_30 (.head _) rfl (.tail _ (.tail _ (.head _))) t_0) dX10_add_31 (.head _))
 (okSeq (p1 := 42) (Γ1 := [(0, 2), (1, 0), (2, 0), (3, 0)]) (okArr (p1 := 36) (p2 := 40) (p3 := 41) (by decide) (okF (p1 := 33) (k := 4) (ok_aload_n dX10_add_32 (.head _) rfl (.head _)) ci_10 (by decide) kf_X10_22 dX10_add_33 (.head _) rfl rfl) (okF (p1 := 37) (k := 5) (ok_aload_n dX10_add_36 (.head _) rfl (.head _)) ci_10 (by decide) kf_X10_29 dX10_add_37 (.head _) rfl rfl) (ok_iload_n dX10_add_40 (.head _) rfl (.tail _ (.tail _ (.tail _ (.head _)))) t_0) dX10_add_41 (.head _))
 (okPutC (p1 := 43) (p2 := 48) (p3 := 49) (k := 5) (τ := 0) (τb := 0) (ok_aload_n dX10_add_42 (.head _) rfl (.head _)) dX10_add_43 dX10_add_44 (ok_iconst dX10_add_47 (.head _) (irn (by decide) (by decide))) (s_iadd dX10_add_48 (.head _)) rfl ci_10 (by decide) kf_X10_29 rfl (fun z _ => qfit_int z) dX10_add_49 (.head _) rfl))))) (fun t ht => okSkip ht))
 (okRetV rfl dX10_add_52))
def mX10_add : QM := qM [2, 0, 0, 0] sX10_add
theorem MX10_add : MetY YX10_add yX10_add none [2, 0, 0, 0] mX10_add := metY_of rfl (by decide +kernel) (.inr (.inr (.inr (.inl ⟨rfl, rfl⟩)))) (by decide) oX10_add

abbrev YX10_isBlank : YT := (RX10, cX10_isBlank, 1, 0, 0, 3)
theorem cf_X10_isBlank : CF yX10_isBlank 1 := ⟨by decide +kernel, by decide +kernel, by decide +kernel⟩
def sX10_isBlank : QT :=
 (sRet (eB (cOr (cB qeq (eV 0) (eI 32)) (cB qeq (eV 0) (eI 10)))))
set_option maxRecDepth 100000 in
theorem oX10_isBlank : OkS YX10_isBlank [(0, 5)] [(0, 5)] 0 [] [] [] [] [] sX10_isBlank := by
  unfold sX10_isBlank
  exact (okRet (p1 := 17) (τ := 3) (okBv (pt := 12) (pf := 16) (pe := 17) (okOr (p1 := 6) (okCBt (p1 := 1) (p2 := 3) (τa := 0) (τb := 0) (okI (τ := 5) (ok_iload_n dX10_isBlank_0 (.head _) rfl (.head _) t_5) t_5) (ok_bipush dX10_isBlank_1 (.head _) (irn4 (by decide) (by decide))) (j_icmp_eq dX10_isBlank_3 rfl) (.head _) (.head _)) (okCBf (p1 := 7) (p2 := 9) (τa := 0) (τb := 0) (okI (τ := 5) (ok_iload_n dX10_isBlank_6 (.head _) rfl (.head _) t_5) t_5) (ok_bipush dX10_isBlank_7 (.head _) (irn4 (by decide) (by decide))) (j_icmp_ne dX10_isBlank_9 rfl) nq_eq (.head _) (.head _))) dX10_isBlank_12 dX10_isBlank_13 rfl dX10_isBlank_16 (.head _) (.head _)) rfl (by decide) dX10_isBlank_17)
def mX10_isBlank : QM := qM [5] sX10_isBlank
theorem MX10_isBlank : MetY YX10_isBlank yX10_isBlank (some .boolean) [5] mX10_isBlank := metY_of rfl (by decide +kernel) (.inr (.inl ⟨rfl, rfl⟩)) (by decide) oX10_isBlank

abbrev YX10_isDigit : YT := (RX10, cX10_isDigit, 1, 0, 0, 3)
theorem cf_X10_isDigit : CF yX10_isDigit 1 := ⟨by decide +kernel, by decide +kernel, by decide +kernel⟩
def sX10_isDigit : QT :=
 (sRet (eB (cAnd (cB qge (eV 0) (eI 48)) (cB qle (eV 0) (eI 57)))))
set_option maxRecDepth 100000 in
theorem oX10_isDigit : OkS YX10_isDigit [(0, 5)] [(0, 5)] 0 [] [] [] [] [] sX10_isDigit := by
  unfold sX10_isDigit
  exact (okRet (p1 := 17) (τ := 3) (okBv (pt := 12) (pf := 16) (pe := 17) (okAnd (p1 := 6) (okCBf (p1 := 1) (p2 := 3) (τa := 0) (τb := 0) (okI (τ := 5) (ok_iload_n dX10_isDigit_0 (.head _) rfl (.head _) t_5) t_5) (ok_bipush dX10_isDigit_1 (.head _) (irn4 (by decide) (by decide))) (j_icmp_lt dX10_isDigit_3 rfl) nq_ge (.head _) (.head _)) (okCBf (p1 := 7) (p2 := 9) (τa := 0) (τb := 0) (okI (τ := 5) (ok_iload_n dX10_isDigit_6 (.head _) rfl (.head _) t_5) t_5) (ok_bipush dX10_isDigit_7 (.head _) (irn4 (by decide) (by decide))) (j_icmp_gt dX10_isDigit_9 rfl) nq_le (.head _) (.head _))) dX10_isDigit_12 dX10_isDigit_13 rfl dX10_isDigit_16 (.head _) (.head _)) rfl (by decide) dX10_isDigit_17)
def mX10_isDigit : QM := qM [5] sX10_isDigit
theorem MX10_isDigit : MetY YX10_isDigit yX10_isDigit (some .boolean) [5] mX10_isDigit := metY_of rfl (by decide +kernel) (.inr (.inl ⟨rfl, rfl⟩)) (by decide) oX10_isDigit

abbrev YX10_isLetter : YT := (RX10, cX10_isLetter, 1, 0, 0, 3)
theorem cf_X10_isLetter : CF yX10_isLetter 1 := ⟨by decide +kernel, by decide +kernel, by decide +kernel⟩
def sX10_isLetter : QT :=
 (sRet (eB (cAnd (cB qge (eV 0) (eI 97)) (cB qle (eV 0) (eI 122)))))
set_option maxRecDepth 100000 in
theorem oX10_isLetter : OkS YX10_isLetter [(0, 5)] [(0, 5)] 0 [] [] [] [] [] sX10_isLetter := by
  unfold sX10_isLetter
  exact (okRet (p1 := 17) (τ := 3) (okBv (pt := 12) (pf := 16) (pe := 17) (okAnd (p1 := 6) (okCBf (p1 := 1) (p2 := 3) (τa := 0) (τb := 0) (okI (τ := 5) (ok_iload_n dX10_isLetter_0 (.head _) rfl (.head _) t_5) t_5) (ok_bipush dX10_isLetter_1 (.head _) (irn4 (by decide) (by decide))) (j_icmp_lt dX10_isLetter_3 rfl) nq_ge (.head _) (.head _)) (okCBf (p1 := 7) (p2 := 9) (τa := 0) (τb := 0) (okI (τ := 5) (ok_iload_n dX10_isLetter_6 (.head _) rfl (.head _) t_5) t_5) (ok_bipush dX10_isLetter_7 (.head _) (irn4 (by decide) (by decide))) (j_icmp_gt dX10_isLetter_9 rfl) nq_le (.head _) (.head _))) dX10_isLetter_12 dX10_isLetter_13 rfl dX10_isLetter_16 (.head _) (.head _)) rfl (by decide) dX10_isLetter_17)
def mX10_isLetter : QM := qM [5] sX10_isLetter
theorem MX10_isLetter : MetY YX10_isLetter yX10_isLetter (some .boolean) [5] mX10_isLetter := metY_of rfl (by decide +kernel) (.inr (.inl ⟨rfl, rfl⟩)) (by decide) oX10_isLetter

abbrev YX10_wordKind : YT := (RX10, cX10_wordKind, 8, 6, 160, 0)
theorem cf_X10_wordKind : CF yX10_wordKind 2 := ⟨by decide +kernel, by decide +kernel, by decide +kernel⟩
def cX10_wordKind_1 : QC :=
 (cB qlt (eV 6) eSL)
def bX10_wordKind_1 : QT :=
 (sSeq (sSet 7 (eSA (eV 6)))
 (sIf (cB qne (eV 7) (eI 32)) (sSeq (sSet 5 (eB (cAnd (cAnd (cE (eV 5)) (cB qlt (eV 4) (eV 2))) (cB qeq (eA 23 (eF 10 0 (eV 0)) (eV 4)) (eV 7)))))
 (sInc 4 1)) (sIf (cAnd (cE (eV 5)) (cB qeq (eV 4) (eV 2))) (sRet (eV 3)) (sSeq (sInc 3 1)
 (sSeq (sSet 4 (eV 1))
 (sSet 5 (eI 1)))))))
def uX10_wordKind_1 : QT :=
 (sInc 6 1)
set_option maxRecDepth 100000 in
theorem obX10_wordKind_1 : OkS YX10_wordKind [(0, 2), (1, 0), (2, 0), (3, 0), (4, 0), (5, 3), (6, 0)] [(0, 2), (1, 0), (2, 0), (3, 0), (4, 0), (5, 3), (6, 0)] 23 [97] [(0, 2), (1, 0), (2, 0), (3, 0), (4, 0), (5, 3), (6, 0)] [103] [(0, 2), (1, 0), (2, 0), (3, 0), (4, 0), (5, 3), (6, 0)] [97] bX10_wordKind_1 := by
  unfold bX10_wordKind_1
  exact (okWeak (Γ1 := [(0, 2), (1, 0), (2, 0), (3, 0), (4, 0), (5, 3), (6, 0), (7, 5)]) (okSeq (p1 := 32) (Γ1 := [(0, 2), (1, 0), (2, 0), (3, 0), (4, 0), (5, 3), (6, 0), (7, 5)]) (ok_istore (Γ' := [(0, 2), (1, 0), (2, 0), (3, 0), (4, 0), (5, 3), (6, 0), (7, 5)]) (p1 := 30) (τ := 5) (okStrAt (p1 := 27) (ok_iload dX10_wordKind_25 (.head _) (.tail _ (.tail _ (.tail _ (.tail _ (.tail _ (.tail _ (.head _))))))) t_0) (by decide) rfl km_X10_64 (Nat.le_of_ble_eq_true rfl) (Nat.le_of_ble_eq_true rfl) dX10_wordKind_23 dX10_wordKind_27 (.head _)) t_5 dX10_wordKind_30 (by decide) (.head _) (by decide))
 (okIf (Γ' := [(0, 2), (1, 0), (2, 0), (3, 0), (4, 0), (5, 3), (6, 0), (7, 5)]) (T := [39]) (F := [75]) (okCBf (p1 := 34) (p2 := 36) (τa := 0) (τb := 0) (okI (τ := 5) (ok_iload dX10_wordKind_32 (.head _) (.tail _ (.tail _ (.tail _ (.tail _ (.tail _ (.tail _ (.tail _ (.head _)))))))) t_5) t_5) (ok_bipush dX10_wordKind_34 (.head _) (irn4 (by decide) (by decide))) (j_icmp_eq dX10_wordKind_36 rfl) nq_ne (.head _) (.head _)) (one (okEnd (p1 := 72) (tg := 97) (okWeak (Γ1 := [(0, 2), (1, 0), (2, 0), (3, 0), (4, 0), (6, 0), (7, 5), (5, 3)]) (okSeq (p1 := 69) (Γ1 := [(0, 2), (1, 0), (2, 0), (3, 0), (4, 0), (6, 0), (7, 5), (5, 3)]) (ok_istore (Γ' := [(0, 2), (1, 0), (2, 0), (3, 0), (4, 0), (6, 0), (7, 5), (5, 3)]) (p1 := 67) (τ := 3) (okBv (pt := 62) (pf := 66) (pe := 67) (okAnd (p1 := 50) (okAnd (p1 := 44) (okCEf (p1 := 41) (okI (τ := 3) (ok_iload dX10_wordKind_39 (.head _) (.tail _ (.tail _ (.tail _ (.tail _ (.tail _ (.head _)))))) t_3) t_3) (j_if_eq dX10_wordKind_41 rfl) (.head _) (.head _)) (okCBf (p1 := 46) (p2 := 47) (τa := 0) (τb := 0) (ok_iload dX10_wordKind_44 (.head _) (.tail _ (.tail _ (.tail _ (.tail _ (.head _))))) t_0) (ok_iload_n dX10_wordKind_46 (.head _) rfl (.tail _ (.tail _ (.head _))) t_0) (j_icmp_ge dX10_wordKind_47 rfl) nq_lt (.head _) (.head _))) (okCBf (p1 := 57) (p2 := 59) (τa := 0) (τb := 0) (okI (τ := 5) (ok_caload (p1 := 54) (p2 := 56) (okF (p1 := 51) (k := 0) (ok_aload_n dX10_wordKind_50 (.head _) rfl (.head _)) ci_10 (by decide) kf_X10_9 dX10_wordKind_51 (.head _) rfl rfl) (ok_iload dX10_wordKind_54 (.head _) (.tail _ (.tail _ (.tail _ (.tail _ (.head _))))) t_0) dX10_wordKind_56 (.head _)) t_5) (okI (τ := 5) (ok_iload dX10_wordKind_57 (.head _) (.tail _ (.tail _ (.tail _ (.tail _ (.tail _ (.tail _ (.tail _ (.head _)))))))) t_5) t_5) (j_icmp_ne dX10_wordKind_59 rfl) nq_eq (.head _) (.head _))) dX10_wordKind_62 dX10_wordKind_63 rfl dX10_wordKind_66 (.head _) (.head _)) t_3 dX10_wordKind_67 (by decide) (.head _) (by decide))
 (okInc (.tail _ (.tail _ (.tail _ (.tail _ (.head _))))) dX10_wordKind_69 (by decide) (.head _) (by decide))) (by decide)) dX10_wordKind_72 rfl (.head _))) (one (okIf (Γ' := [(0, 2), (1, 0), (2, 0), (3, 0), (4, 0), (5, 3), (6, 0), (7, 5)]) (T := [86]) (F := [88]) (okAnd (p1 := 80) (okCEf (p1 := 77) (okI (τ := 3) (ok_iload dX10_wordKind_75 (.head _) (.tail _ (.tail _ (.tail _ (.tail _ (.tail _ (.head _)))))) t_3) t_3) (j_if_eq dX10_wordKind_77 rfl) (.head _) (.head _)) (okCBf (p1 := 82) (p2 := 83) (τa := 0) (τb := 0) (ok_iload dX10_wordKind_80 (.head _) (.tail _ (.tail _ (.tail _ (.tail _ (.head _))))) t_0) (ok_iload_n dX10_wordKind_82 (.head _) rfl (.tail _ (.tail _ (.head _))) t_0) (j_icmp_ne dX10_wordKind_83 rfl) nq_eq (.head _) (.head _))) (one (okRet (p1 := 87) (τ := 0) (ok_iload_n dX10_wordKind_86 (.head _) rfl (.tail _ (.tail _ (.tail _ (.head _)))) t_0) rfl (by decide) dX10_wordKind_87)) (one (okWeak (Γ1 := [(0, 2), (1, 0), (2, 0), (3, 0), (6, 0), (7, 5), (4, 0), (5, 3)]) (okSeq (p1 := 91) (Γ1 := [(0, 2), (1, 0), (2, 0), (3, 0), (4, 0), (5, 3), (6, 0), (7, 5)]) (okInc (.tail _ (.tail _ (.tail _ (.head _)))) dX10_wordKind_88 (by decide) (.head _) (by decide))
 (okSeq (p1 := 94) (Γ1 := [(0, 2), (1, 0), (2, 0), (3, 0), (5, 3), (6, 0), (7, 5), (4, 0)]) (ok_istore (Γ' := [(0, 2), (1, 0), (2, 0), (3, 0), (5, 3), (6, 0), (7, 5), (4, 0)]) (p1 := 92) (τ := 0) (ok_iload_n dX10_wordKind_91 (.head _) rfl (.tail _ (.head _)) t_0) t_0 dX10_wordKind_92 (by decide) (.head _) (by decide))
 (ok_istore (Γ' := [(0, 2), (1, 0), (2, 0), (3, 0), (6, 0), (7, 5), (4, 0), (5, 3)]) (p1 := 95) (τ := 3) (ok_zconst dX10_wordKind_94 (.head _) ⟨by decide, by decide⟩) t_3 dX10_wordKind_95 (by decide) (.head _) (by decide)))) (by decide))))))) (by decide))
set_option maxRecDepth 100000 in
theorem ocX10_wordKind_1 : OkC YX10_wordKind [(0, 2), (1, 0), (2, 0), (3, 0), (4, 0), (5, 3), (6, 0)] 0 13 [23] [103] cX10_wordKind_1 := by
  unfold cX10_wordKind_1
  exact (okCBf (p1 := 15) (p2 := 20) (τa := 0) (τb := 0) (ok_iload dX10_wordKind_13 (.head _) (.tail _ (.tail _ (.tail _ (.tail _ (.tail _ (.tail _ (.head _))))))) t_0) (okStrLen rfl (by decide) km_X10_59 (Nat.le_of_ble_eq_true rfl) (Nat.le_of_ble_eq_true rfl) dX10_wordKind_15 dX10_wordKind_17 (.head _)) (j_icmp_ge dX10_wordKind_20 rfl) nq_lt (.head _) (.head _))
set_option maxRecDepth 100000 in
theorem ouX10_wordKind_1 : ∀ t ∈ ([97] : List Nat), OkS YX10_wordKind [(0, 2), (1, 0), (2, 0), (3, 0), (4, 0), (5, 3), (6, 0)] [(0, 2), (1, 0), (2, 0), (3, 0), (4, 0), (5, 3), (6, 0)] t [13] [] [] [] [] uX10_wordKind_1 := by
  unfold uX10_wordKind_1
  exact (one (okEnd (p1 := 100) (tg := 13) (okInc (.tail _ (.tail _ (.tail _ (.tail _ (.tail _ (.tail _ (.head _))))))) dX10_wordKind_97 (by decide) (.head _) (by decide)) dX10_wordKind_100 rfl (.head _)))
def sX10_wordKind : QT :=
 (sSeq (sSet 3 (eI 256))
 (sSeq (sSet 4 (eV 1))
 (sSeq (sSet 5 (eI 1))
 (sSeq (sSeq (sSet 6 (eI 0))
 (sWhile cX10_wordKind_1 bX10_wordKind_1 uX10_wordKind_1))
 (sRet (eI 4))))))
set_option maxRecDepth 100000 in
theorem oX10_wordKind : OkS YX10_wordKind [(0, 2), (1, 0), (2, 0)] [(0, 2), (1, 0), (2, 0), (3, 0), (4, 0), (5, 3)] 0 [] [] [] [] [] sX10_wordKind := by
  unfold sX10_wordKind
  exact (okSeq (p1 := 4) (Γ1 := [(0, 2), (1, 0), (2, 0), (3, 0)]) (ok_istore_n (Γ' := [(0, 2), (1, 0), (2, 0), (3, 0)]) (p1 := 3) (τ := 0) (ok_sipush dX10_wordKind_0 (.head _) ⟨by decide, by decide⟩) t_0 dX10_wordKind_3 rfl (by decide) (.head _) (by decide))
 (okSeq (p1 := 7) (Γ1 := [(0, 2), (1, 0), (2, 0), (3, 0), (4, 0)]) (ok_istore (Γ' := [(0, 2), (1, 0), (2, 0), (3, 0), (4, 0)]) (p1 := 5) (τ := 0) (ok_iload_n dX10_wordKind_4 (.head _) rfl (.tail _ (.head _)) t_0) t_0 dX10_wordKind_5 (by decide) (.head _) (by decide))
 (okSeq (p1 := 10) (Γ1 := [(0, 2), (1, 0), (2, 0), (3, 0), (4, 0), (5, 3)]) (ok_istore (Γ' := [(0, 2), (1, 0), (2, 0), (3, 0), (4, 0), (5, 3)]) (p1 := 8) (τ := 3) (ok_zconst dX10_wordKind_7 (.head _) ⟨by decide, by decide⟩) t_3 dX10_wordKind_8 (by decide) (.head _) (by decide))
 (okSeq (p1 := 103) (Γ1 := [(0, 2), (1, 0), (2, 0), (3, 0), (4, 0), (5, 3)]) (okWeak (Γ1 := [(0, 2), (1, 0), (2, 0), (3, 0), (4, 0), (5, 3), (6, 0)]) (okSeq (p1 := 13) (Γ1 := [(0, 2), (1, 0), (2, 0), (3, 0), (4, 0), (5, 3), (6, 0)]) (ok_istore (Γ' := [(0, 2), (1, 0), (2, 0), (3, 0), (4, 0), (5, 3), (6, 0)]) (p1 := 11) (τ := 0) (ok_iconst dX10_wordKind_10 (.head _) (irn (by decide) (by decide))) t_0 dX10_wordKind_11 (by decide) (.head _) (by decide))
 (okWhile (T := [23]) (F := [103]) (Eb := [97]) ocX10_wordKind_1 (fun _ h => h) (one obX10_wordKind_1) ouX10_wordKind_1)) (by decide))
 (okRet (p1 := 104) (τ := 0) (ok_iconst dX10_wordKind_103 (.head _) (irn (by decide) (by decide))) rfl (by decide) dX10_wordKind_104)))))
def mX10_wordKind : QM := qM [2, 0, 0] sX10_wordKind
theorem MX10_wordKind : MetY YX10_wordKind yX10_wordKind (some .int) [2, 0, 0] mX10_wordKind := metY_of rfl (by decide +kernel) (.inl ⟨rfl, rfl⟩) (by decide) oX10_wordKind

abbrev YX10_kindOf : YT := (RX10, cX10_kindOf, 5, 7, 187, 0)
theorem cf_X10_kindOf : CF yX10_kindOf 2 := ⟨by decide +kernel, by decide +kernel, by decide +kernel⟩
def sX10_kindOf : QT :=
 (sSeq (sSet 3 (eA 23 (eF 10 0 (eV 0)) (eV 1)))
 (sSeq (sIf (cE (eCall mX10_isLetter [(eV 3)])) (sRet (eCallV 10 mX10_wordKind [(eV 0), (eV 1), (eV 2)])) sSkip)
 (sSeq (sIf (cE (eCall mX10_isDigit [(eV 3)])) (sRet (eI 3)) sSkip)
 (sSeq (sSet 4 (eB (cOr (cOr (cOr (cOr (cOr (cOr (cOr (cB qeq (eV 3) (eI 59)) (cB qeq (eV 3) (eI 61))) (cB qeq (eV 3) (eI 40))) (cB qeq (eV 3) (eI 41))) (cB qeq (eV 3) (eI 43))) (cB qeq (eV 3) (eI 45))) (cB qeq (eV 3) (eI 42))) (cB qeq (eV 3) (eI 47)))))
 (sRet (eIf (cE (eV 4)) (eV 3) (eI 2)))))))
set_option maxRecDepth 100000 in
theorem oX10_kindOf : OkS YX10_kindOf [(0, 2), (1, 0), (2, 0)] [(0, 2), (1, 0), (2, 0), (3, 5), (4, 3)] 0 [] [] [] [] [] sX10_kindOf := by
  unfold sX10_kindOf
  exact (okSeq (p1 := 7) (Γ1 := [(0, 2), (1, 0), (2, 0), (3, 5)]) (ok_istore_n (Γ' := [(0, 2), (1, 0), (2, 0), (3, 5)]) (p1 := 6) (τ := 5) (ok_caload (p1 := 4) (p2 := 5) (okF (p1 := 1) (k := 0) (ok_aload_n dX10_kindOf_0 (.head _) rfl (.head _)) ci_10 (by decide) kf_X10_9 dX10_kindOf_1 (.head _) rfl rfl) (ok_iload_n dX10_kindOf_4 (.head _) rfl (.tail _ (.head _)) t_0) dX10_kindOf_5 (.head _)) t_5 dX10_kindOf_6 rfl (by decide) (.head _) (by decide))
 (okSeq (p1 := 21) (Γ1 := [(0, 2), (1, 0), (2, 0), (3, 5)]) (okIf (Γ' := [(0, 2), (1, 0), (2, 0), (3, 5)]) (T := [14]) (F := [21]) (okCEf (p1 := 11) (okI (τ := 3) (okCallS (p1 := 8) (okCons (p1 := 8) (ok_iload_n dX10_kindOf_7 (.head _) rfl (.tail _ (.tail _ (.tail _ (.head _)))) t_5) okNil) MX10_isLetter cf_X10_isLetter rfl kc_X10_isLetter km_X10_48 ks_X10_isLetter kn_X10 (Nat.le_of_ble_eq_true rfl) (Nat.le_of_ble_eq_true rfl) dX10_kindOf_8 (.head _) (by decide) rfl (by decide)) t_3) (j_if_eq dX10_kindOf_11 rfl) (.head _) (.head _)) (one (okRet (p1 := 20) (τ := 0) (okCallV (p1 := 17) (okCons (p1 := 15) (ok_aload_n dX10_kindOf_14 (.head _) rfl (.head _)) (okCons (p1 := 16) (ok_iload_n dX10_kindOf_15 (.head _) rfl (.tail _ (.head _)) t_0) (okCons (p1 := 17) (ok_iload_n dX10_kindOf_16 (.head _) rfl (.tail _ (.tail _ (.head _))) t_0) okNil))) MX10_wordKind cf_X10_wordKind ci_10 rfl kc_X10_wordKind km_X10_54 ki_X10_wordKind kv_X10_wordKind kn_X10 (Nat.le_of_ble_eq_true rfl) (Nat.le_of_ble_eq_true rfl) dX10_kindOf_17 (.head _) (by decide) rfl (by decide)) rfl (by decide) dX10_kindOf_20)) (fun t ht => okSkip ht))
 (okSeq (p1 := 30) (Γ1 := [(0, 2), (1, 0), (2, 0), (3, 5)]) (okIf (Γ' := [(0, 2), (1, 0), (2, 0), (3, 5)]) (T := [28]) (F := [30]) (okCEf (p1 := 25) (okI (τ := 3) (okCallS (p1 := 22) (okCons (p1 := 22) (ok_iload_n dX10_kindOf_21 (.head _) rfl (.tail _ (.tail _ (.tail _ (.head _)))) t_5) okNil) MX10_isDigit cf_X10_isDigit rfl kc_X10_isDigit km_X10_51 ks_X10_isDigit kn_X10 (Nat.le_of_ble_eq_true rfl) (Nat.le_of_ble_eq_true rfl) dX10_kindOf_22 (.head _) (by decide) rfl (by decide)) t_3) (j_if_eq dX10_kindOf_25 rfl) (.head _) (.head _)) (one (okRet (p1 := 29) (τ := 0) (ok_iconst dX10_kindOf_28 (.head _) (irn (by decide) (by decide))) rfl (by decide) dX10_kindOf_29)) (fun t ht => okSkip ht))
 (okSeq (p1 := 85) (Γ1 := [(0, 2), (1, 0), (2, 0), (3, 5), (4, 3)]) (ok_istore (Γ' := [(0, 2), (1, 0), (2, 0), (3, 5), (4, 3)]) (p1 := 83) (τ := 3) (okBv (pt := 78) (pf := 82) (pe := 83) (okOr (p1 := 72) (okOr (p1 := 66) (okOr (p1 := 60) (okOr (p1 := 54) (okOr (p1 := 48) (okOr (p1 := 42) (okOr (p1 := 36) (okCBt (p1 := 31) (p2 := 33) (τa := 0) (τb := 0) (okI (τ := 5) (ok_iload_n dX10_kindOf_30 (.head _) rfl (.tail _ (.tail _ (.tail _ (.head _)))) t_5) t_5) (ok_bipush dX10_kindOf_31 (.head _) (irn4 (by decide) (by decide))) (j_icmp_eq dX10_kindOf_33 rfl) (.head _) (.head _)) (okCBt (p1 := 37) (p2 := 39) (τa := 0) (τb := 0) (okI (τ := 5) (ok_iload_n dX10_kindOf_36 (.head _) rfl (.tail _ (.tail _ (.tail _ (.head _)))) t_5) t_5) (ok_bipush dX10_kindOf_37 (.head _) (irn4 (by decide) (by decide))) (j_icmp_eq dX10_kindOf_39 rfl) (.head _) (.head _))) (okCBt (p1 := 43) (p2 := 45) (τa := 0) (τb := 0) (okI (τ := 5) (ok_iload_n dX10_kindOf_42 (.head _) rfl (.tail _ (.tail _ (.tail _ (.head _)))) t_5) t_5) (ok_bipush dX10_kindOf_43 (.head _) (irn4 (by decide) (by decide))) (j_icmp_eq dX10_kindOf_45 rfl) (.head _) (.head _))) (okCBt (p1 := 49) (p2 := 51) (τa := 0) (τb := 0) (okI (τ := 5) (ok_iload_n dX10_kindOf_48 (.head _) rfl (.tail _ (.tail _ (.tail _ (.head _)))) t_5) t_5) (ok_bipush dX10_kindOf_49 (.head _) (irn4 (by decide) (by decide))) (j_icmp_eq dX10_kindOf_51 rfl) (.head _) (.head _))) (okCBt (p1 := 55) (p2 := 57) (τa := 0) (τb := 0) (okI (τ := 5) (ok_iload_n dX10_kindOf_54 (.head _) rfl (.tail _ (.tail _ (.tail _ (.head _)))) t_5) t_5) (ok_bipush dX10_kindOf_55 (.head _) (irn4 (by decide) (by decide))) (j_icmp_eq dX10_kindOf_57 rfl) (.head _) (.head _))) (okCBt (p1 := 61) (p2 := 63) (τa := 0) (τb := 0) (okI (τ := 5) (ok_iload_n dX10_kindOf_60 (.head _) rfl (.tail _ (.tail _ (.tail _ (.head _)))) t_5) t_5) (ok_bipush dX10_kindOf_61 (.head _) (irn4 (by decide) (by decide))) (j_icmp_eq dX10_kindOf_63 rfl) (.head _) (.head _))) (okCBt (p1 := 67) (p2 := 69) (τa := 0) (τb := 0) (okI (τ := 5) (ok_iload_n dX10_kindOf_66 (.head _) rfl (.tail _ (.tail _ (.tail _ (.head _)))) t_5) t_5) (ok_bipush dX10_kindOf_67 (.head _) (irn4 (by decide) (by decide))) (j_icmp_eq dX10_kindOf_69 rfl) (.head _) (.head _))) (okCBf (p1 := 73) (p2 := 75) (τa := 0) (τb := 0) (okI (τ := 5) (ok_iload_n dX10_kindOf_72 (.head _) rfl (.tail _ (.tail _ (.tail _ (.head _)))) t_5) t_5) (ok_bipush dX10_kindOf_73 (.head _) (irn4 (by decide) (by decide))) (j_icmp_ne dX10_kindOf_75 rfl) nq_eq (.head _) (.head _))) dX10_kindOf_78 dX10_kindOf_79 rfl dX10_kindOf_82 (.head _) (.head _)) t_3 dX10_kindOf_83 (by decide) (.head _) (by decide))
 (okRet (p1 := 95) (τ := 0) (okIfE (pt := 90) (pf := 94) (p1 := 91) (pe := 95) (okCEf (p1 := 87) (okI (τ := 3) (ok_iload dX10_kindOf_85 (.head _) (.tail _ (.tail _ (.tail _ (.tail _ (.head _))))) t_3) t_3) (j_if_eq dX10_kindOf_87 rfl) (.head _) (.head _)) (okI (τ := 5) (ok_iload_n dX10_kindOf_90 (.head _) rfl (.tail _ (.tail _ (.tail _ (.head _)))) t_5) t_5) dX10_kindOf_91 rfl (.head _) (ok_iconst dX10_kindOf_94 (.head _) (irn (by decide) (by decide)))) rfl (by decide) dX10_kindOf_95)))))
def mX10_kindOf : QM := qM [2, 0, 0] sX10_kindOf
theorem MX10_kindOf : MetY YX10_kindOf yX10_kindOf (some .int) [2, 0, 0] mX10_kindOf := metY_of rfl (by decide +kernel) (.inl ⟨rfl, rfl⟩) (by decide) oX10_kindOf

abbrev YX10_stopOf : YT := (RX10, cX10_stopOf, 3, 1, 20, 0)
theorem cf_X10_stopOf : CF yX10_stopOf 1 := ⟨by decide +kernel, by decide +kernel, by decide +kernel⟩
def cX10_stopOf_1 : QC :=
 (cAnd (cB qlt (eV 2) (eF 10 1 (eV 0))) (cE (eCall mX10_isLetter [(eA 23 (eF 10 0 (eV 0)) (eV 2))])))
def bX10_stopOf_1 : QT :=
 (sInc 2 1)
def uX10_stopOf_1 : QT :=
 sSkip
set_option maxRecDepth 100000 in
theorem obX10_stopOf_1 : OkS YX10_stopOf [(0, 2), (1, 0), (2, 0)] [(0, 2), (1, 0), (2, 0)] 36 [39, 16] [(0, 2), (1, 0), (2, 0)] [80] [(0, 2), (1, 0), (2, 0)] [39, 16] bX10_stopOf_1 := by
  unfold bX10_stopOf_1
  exact (okInc (.tail _ (.tail _ (.head _))) dX10_stopOf_36 (by decide) (.head _) (by decide))
set_option maxRecDepth 100000 in
theorem ocX10_stopOf_1 : OkC YX10_stopOf [(0, 2), (1, 0), (2, 0)] 0 16 [36] [80] cX10_stopOf_1 := by
  unfold cX10_stopOf_1
  exact (okAnd (p1 := 24) (okCBf (p1 := 17) (p2 := 21) (τa := 0) (τb := 0) (ok_iload_n dX10_stopOf_16 (.head _) rfl (.tail _ (.tail _ (.head _))) t_0) (okF (p1 := 18) (k := 1) (ok_aload_n dX10_stopOf_17 (.head _) rfl (.head _)) ci_10 (by decide) kf_X10_25 dX10_stopOf_18 (.head _) rfl rfl) (j_icmp_ge dX10_stopOf_21 rfl) nq_lt (.head _) (.head _)) (okCEf (p1 := 33) (okI (τ := 3) (okCallS (p1 := 30) (okCons (p1 := 30) (ok_caload (p1 := 28) (p2 := 29) (okF (p1 := 25) (k := 0) (ok_aload_n dX10_stopOf_24 (.head _) rfl (.head _)) ci_10 (by decide) kf_X10_9 dX10_stopOf_25 (.head _) rfl rfl) (ok_iload_n dX10_stopOf_28 (.head _) rfl (.tail _ (.tail _ (.head _))) t_0) dX10_stopOf_29 (.head _)) okNil) MX10_isLetter cf_X10_isLetter rfl kc_X10_isLetter km_X10_48 ks_X10_isLetter kn_X10 (Nat.le_of_ble_eq_true rfl) (Nat.le_of_ble_eq_true rfl) dX10_stopOf_30 (.head _) (by decide) rfl (by decide)) t_3) (j_if_eq dX10_stopOf_33 rfl) (.head _) (.head _)))
set_option maxRecDepth 100000 in
theorem ouX10_stopOf_1 : ∀ t ∈ ([39, 16] : List Nat), OkS YX10_stopOf [(0, 2), (1, 0), (2, 0)] [(0, 2), (1, 0), (2, 0)] t [16] [] [] [] [] uX10_stopOf_1 := by
  unfold uX10_stopOf_1
  exact (List.forall_mem_cons.mpr ⟨okGo dX10_stopOf_39 (tg := 16) rfl (okSkip (.head _)), one (okSkip (.head _))⟩)
def cX10_stopOf_2 : QC :=
 (cAnd (cB qlt (eV 2) (eF 10 1 (eV 0))) (cE (eCall mX10_isDigit [(eA 23 (eF 10 0 (eV 0)) (eV 2))])))
def bX10_stopOf_2 : QT :=
 (sInc 2 1)
def uX10_stopOf_2 : QT :=
 sSkip
set_option maxRecDepth 100000 in
theorem obX10_stopOf_2 : OkS YX10_stopOf [(0, 2), (1, 0), (2, 0)] [(0, 2), (1, 0), (2, 0)] 74 [77, 54] [(0, 2), (1, 0), (2, 0)] [80] [(0, 2), (1, 0), (2, 0)] [77, 54] bX10_stopOf_2 := by
  unfold bX10_stopOf_2
  exact (okInc (.tail _ (.tail _ (.head _))) dX10_stopOf_74 (by decide) (.head _) (by decide))
set_option maxRecDepth 100000 in
theorem ocX10_stopOf_2 : OkC YX10_stopOf [(0, 2), (1, 0), (2, 0)] 0 54 [74] [80] cX10_stopOf_2 := by
  unfold cX10_stopOf_2
  exact (okAnd (p1 := 62) (okCBf (p1 := 55) (p2 := 59) (τa := 0) (τb := 0) (ok_iload_n dX10_stopOf_54 (.head _) rfl (.tail _ (.tail _ (.head _))) t_0) (okF (p1 := 56) (k := 1) (ok_aload_n dX10_stopOf_55 (.head _) rfl (.head _)) ci_10 (by decide) kf_X10_25 dX10_stopOf_56 (.head _) rfl rfl) (j_icmp_ge dX10_stopOf_59 rfl) nq_lt (.head _) (.head _)) (okCEf (p1 := 71) (okI (τ := 3) (okCallS (p1 := 68) (okCons (p1 := 68) (ok_caload (p1 := 66) (p2 := 67) (okF (p1 := 63) (k := 0) (ok_aload_n dX10_stopOf_62 (.head _) rfl (.head _)) ci_10 (by decide) kf_X10_9 dX10_stopOf_63 (.head _) rfl rfl) (ok_iload_n dX10_stopOf_66 (.head _) rfl (.tail _ (.tail _ (.head _))) t_0) dX10_stopOf_67 (.head _)) okNil) MX10_isDigit cf_X10_isDigit rfl kc_X10_isDigit km_X10_51 ks_X10_isDigit kn_X10 (Nat.le_of_ble_eq_true rfl) (Nat.le_of_ble_eq_true rfl) dX10_stopOf_68 (.head _) (by decide) rfl (by decide)) t_3) (j_if_eq dX10_stopOf_71 rfl) (.head _) (.head _)))
set_option maxRecDepth 100000 in
theorem ouX10_stopOf_2 : ∀ t ∈ ([77, 54] : List Nat), OkS YX10_stopOf [(0, 2), (1, 0), (2, 0)] [(0, 2), (1, 0), (2, 0)] t [54] [] [] [] [] uX10_stopOf_2 := by
  unfold uX10_stopOf_2
  exact (List.forall_mem_cons.mpr ⟨okGo dX10_stopOf_77 (tg := 54) rfl (okSkip (.head _)), one (okSkip (.head _))⟩)
def sX10_stopOf : QT :=
 (sSeq (sSet 2 (e2 iA (eV 1) (eI 1)))
 (sSeq (sIf (cE (eCall mX10_isLetter [(eA 23 (eF 10 0 (eV 0)) (eV 1))])) (sWhile cX10_stopOf_1 bX10_stopOf_1 uX10_stopOf_1) (sIf (cE (eCall mX10_isDigit [(eA 23 (eF 10 0 (eV 0)) (eV 1))])) (sWhile cX10_stopOf_2 bX10_stopOf_2 uX10_stopOf_2) sSkip))
 (sRet (eV 2))))
set_option maxRecDepth 100000 in
theorem oX10_stopOf : OkS YX10_stopOf [(0, 2), (1, 0)] [(0, 2), (1, 0), (2, 0)] 0 [] [] [] [] [] sX10_stopOf := by
  unfold sX10_stopOf
  exact (okSeq (p1 := 4) (Γ1 := [(0, 2), (1, 0), (2, 0)]) (ok_istore_n (Γ' := [(0, 2), (1, 0), (2, 0)]) (p1 := 3) (τ := 0) (okE2 (p1 := 1) (p2 := 2) (τa := 0) (τb := 0) (ok_iload_n dX10_stopOf_0 (.head _) rfl (.tail _ (.head _)) t_0) (ok_iconst dX10_stopOf_1 (.head _) (irn (by decide) (by decide))) (s_iadd dX10_stopOf_2 (.head _))) t_0 dX10_stopOf_3 rfl (by decide) (.head _) (by decide))
 (okSeq (p1 := 80) (Γ1 := [(0, 2), (1, 0), (2, 0)]) (okIf (Γ' := [(0, 2), (1, 0), (2, 0)]) (T := [16]) (F := [42]) (okCEf (p1 := 13) (okI (τ := 3) (okCallS (p1 := 10) (okCons (p1 := 10) (ok_caload (p1 := 8) (p2 := 9) (okF (p1 := 5) (k := 0) (ok_aload_n dX10_stopOf_4 (.head _) rfl (.head _)) ci_10 (by decide) kf_X10_9 dX10_stopOf_5 (.head _) rfl rfl) (ok_iload_n dX10_stopOf_8 (.head _) rfl (.tail _ (.head _)) t_0) dX10_stopOf_9 (.head _)) okNil) MX10_isLetter cf_X10_isLetter rfl kc_X10_isLetter km_X10_48 ks_X10_isLetter kn_X10 (Nat.le_of_ble_eq_true rfl) (Nat.le_of_ble_eq_true rfl) dX10_stopOf_10 (.head _) (by decide) rfl (by decide)) t_3) (j_if_eq dX10_stopOf_13 rfl) (.head _) (.head _)) (one (okWhile (T := [36]) (F := [80]) (Eb := [39, 16]) ocX10_stopOf_1 (fun _ h => h) (one obX10_stopOf_1) ouX10_stopOf_1)) (one (okIf (Γ' := [(0, 2), (1, 0), (2, 0)]) (T := [54]) (F := [80]) (okCEf (p1 := 51) (okI (τ := 3) (okCallS (p1 := 48) (okCons (p1 := 48) (ok_caload (p1 := 46) (p2 := 47) (okF (p1 := 43) (k := 0) (ok_aload_n dX10_stopOf_42 (.head _) rfl (.head _)) ci_10 (by decide) kf_X10_9 dX10_stopOf_43 (.head _) rfl rfl) (ok_iload_n dX10_stopOf_46 (.head _) rfl (.tail _ (.head _)) t_0) dX10_stopOf_47 (.head _)) okNil) MX10_isDigit cf_X10_isDigit rfl kc_X10_isDigit km_X10_51 ks_X10_isDigit kn_X10 (Nat.le_of_ble_eq_true rfl) (Nat.le_of_ble_eq_true rfl) dX10_stopOf_48 (.head _) (by decide) rfl (by decide)) t_3) (j_if_eq dX10_stopOf_51 rfl) (.head _) (.head _)) (one (okWhile (T := [74]) (F := [80]) (Eb := [77, 54]) ocX10_stopOf_2 (fun _ h => h) (one obX10_stopOf_2) ouX10_stopOf_2)) (fun t ht => okSkip ht))))
 (okRet (p1 := 81) (τ := 0) (ok_iload_n dX10_stopOf_80 (.head _) rfl (.tail _ (.tail _ (.head _))) t_0) rfl (by decide) dX10_stopOf_81)))
def mX10_stopOf : QM := qM [2, 0] sX10_stopOf
theorem MX10_stopOf : MetY YX10_stopOf yX10_stopOf (some .int) [2, 0] mX10_stopOf := metY_of rfl (by decide +kernel) (.inl ⟨rfl, rfl⟩) (by decide) oX10_stopOf

abbrev YX10_scan : YT := (RX10, cX10_scan, 4, 8, 211, 9)
theorem cf_X10_scan : CF yX10_scan 0 := ⟨by decide +kernel, by decide +kernel, by decide +kernel⟩
def cX10_scan_1 : QC :=
 (cAnd (cB qlt (eV 2) (eI 1000)) (cB qlt (eV 1) (eF 10 1 (eV 0))))
def bX10_scan_1 : QT :=
 (sSeq (sSet 3 (e2 iA (eV 1) (eI 1)))
 (sSeq (sIf (cNot (cE (eCall mX10_isBlank [(eA 23 (eF 10 0 (eV 0)) (eV 1))]))) (sSeq (sSet 3 (eCallV 10 mX10_stopOf [(eV 0), (eV 1)]))
 (sDo (eCallV 10 mX10_add [(eV 0), (eCallV 10 mX10_kindOf [(eV 0), (eV 1), (eV 3)]), (eV 1), (eV 3)]))) sSkip)
 (sSet 1 (eV 3))))
def uX10_scan_1 : QT :=
 (sInc 2 1)
set_option maxRecDepth 100000 in
theorem obX10_scan_1 : OkS YX10_scan [(0, 2), (1, 0), (2, 0)] [(0, 2), (1, 0), (2, 0)] 24 [60] [(0, 2), (1, 0), (2, 0)] [66] [(0, 2), (1, 0), (2, 0)] [60] bX10_scan_1 := by
  unfold bX10_scan_1
  exact (okWeak (Γ1 := [(0, 2), (2, 0), (3, 0), (1, 0)]) (okSeq (p1 := 28) (Γ1 := [(0, 2), (1, 0), (2, 0), (3, 0)]) (ok_istore_n (Γ' := [(0, 2), (1, 0), (2, 0), (3, 0)]) (p1 := 27) (τ := 0) (okE2 (p1 := 25) (p2 := 26) (τa := 0) (τb := 0) (ok_iload_n dX10_scan_24 (.head _) rfl (.tail _ (.head _)) t_0) (ok_iconst dX10_scan_25 (.head _) (irn (by decide) (by decide))) (s_iadd dX10_scan_26 (.head _))) t_0 dX10_scan_27 rfl (by decide) (.head _) (by decide))
 (okSeq (p1 := 58) (Γ1 := [(0, 2), (1, 0), (2, 0), (3, 0)]) (okIf (Γ' := [(0, 2), (1, 0), (2, 0), (3, 0)]) (T := [40]) (F := [58]) (okNot (okCEt (p1 := 37) (okI (τ := 3) (okCallS (p1 := 34) (okCons (p1 := 34) (ok_caload (p1 := 32) (p2 := 33) (okF (p1 := 29) (k := 0) (ok_aload_n dX10_scan_28 (.head _) rfl (.head _)) ci_10 (by decide) kf_X10_9 dX10_scan_29 (.head _) rfl rfl) (ok_iload_n dX10_scan_32 (.head _) rfl (.tail _ (.head _)) t_0) dX10_scan_33 (.head _)) okNil) MX10_isBlank cf_X10_isBlank rfl kc_X10_isBlank km_X10_32 ks_X10_isBlank kn_X10 (Nat.le_of_ble_eq_true rfl) (Nat.le_of_ble_eq_true rfl) dX10_scan_34 (.head _) (by decide) rfl (by decide)) t_3) (j_if_ne dX10_scan_37 rfl) (.head _) (.head _))) (one (okSeq (p1 := 46) (Γ1 := [(0, 2), (1, 0), (2, 0), (3, 0)]) (ok_istore_n (Γ' := [(0, 2), (1, 0), (2, 0), (3, 0)]) (p1 := 45) (τ := 0) (okCallV (p1 := 42) (okCons (p1 := 41) (ok_aload_n dX10_scan_40 (.head _) rfl (.head _)) (okCons (p1 := 42) (ok_iload_n dX10_scan_41 (.head _) rfl (.tail _ (.head _)) t_0) okNil)) MX10_stopOf cf_X10_stopOf ci_10 rfl kc_X10_stopOf km_X10_36 ki_X10_stopOf kv_X10_stopOf kn_X10 (Nat.le_of_ble_eq_true rfl) (Nat.le_of_ble_eq_true rfl) dX10_scan_42 (.head _) (by decide) rfl (by decide)) t_0 dX10_scan_45 rfl (by decide) (.head _) (by decide))
 (okDoV (p1 := 55) (okCons (p1 := 47) (ok_aload_n dX10_scan_46 (.head _) rfl (.head _)) (okCons (p1 := 53) (okCallV (p1 := 50) (okCons (p1 := 48) (ok_aload_n dX10_scan_47 (.head _) rfl (.head _)) (okCons (p1 := 49) (ok_iload_n dX10_scan_48 (.head _) rfl (.tail _ (.head _)) t_0) (okCons (p1 := 50) (ok_iload_n dX10_scan_49 (.head _) rfl (.tail _ (.tail _ (.tail _ (.head _)))) t_0) okNil))) MX10_kindOf cf_X10_kindOf ci_10 rfl kc_X10_kindOf km_X10_40 ki_X10_kindOf kv_X10_kindOf kn_X10 (Nat.le_of_ble_eq_true rfl) (Nat.le_of_ble_eq_true rfl) dX10_scan_50 (.head _) (by decide) rfl (by decide)) (okCons (p1 := 54) (ok_iload_n dX10_scan_53 (.head _) rfl (.tail _ (.head _)) t_0) (okCons (p1 := 55) (ok_iload_n dX10_scan_54 (.head _) rfl (.tail _ (.tail _ (.tail _ (.head _)))) t_0) okNil)))) MX10_add cf_X10_add ci_10 rfl kc_X10_add km_X10_44 ki_X10_add kv_X10_add kn_X10 (Nat.le_of_ble_eq_true rfl) (Nat.le_of_ble_eq_true rfl) dX10_scan_55 (.head _) rfl))) (fun t ht => okSkip ht))
 (ok_istore_n (Γ' := [(0, 2), (2, 0), (3, 0), (1, 0)]) (p1 := 59) (τ := 0) (ok_iload_n dX10_scan_58 (.head _) rfl (.tail _ (.tail _ (.tail _ (.head _)))) t_0) t_0 dX10_scan_59 rfl (by decide) (.head _) (by decide)))) (by decide))
set_option maxRecDepth 100000 in
theorem ocX10_scan_1 : OkC YX10_scan [(0, 2), (1, 0), (2, 0)] 0 9 [24] [66] cX10_scan_1 := by
  unfold cX10_scan_1
  exact (okAnd (p1 := 16) (okCBf (p1 := 10) (p2 := 13) (τa := 0) (τb := 0) (ok_iload_n dX10_scan_9 (.head _) rfl (.tail _ (.tail _ (.head _))) t_0) (ok_sipush dX10_scan_10 (.head _) ⟨by decide, by decide⟩) (j_icmp_ge dX10_scan_13 rfl) nq_lt (.head _) (.head _)) (okCBf (p1 := 17) (p2 := 21) (τa := 0) (τb := 0) (ok_iload_n dX10_scan_16 (.head _) rfl (.tail _ (.head _)) t_0) (okF (p1 := 18) (k := 1) (ok_aload_n dX10_scan_17 (.head _) rfl (.head _)) ci_10 (by decide) kf_X10_25 dX10_scan_18 (.head _) rfl rfl) (j_icmp_ge dX10_scan_21 rfl) nq_lt (.head _) (.head _)))
set_option maxRecDepth 100000 in
theorem ouX10_scan_1 : ∀ t ∈ ([60] : List Nat), OkS YX10_scan [(0, 2), (1, 0), (2, 0)] [(0, 2), (1, 0), (2, 0)] t [9] [] [] [] [] uX10_scan_1 := by
  unfold uX10_scan_1
  exact (one (okEnd (p1 := 63) (tg := 9) (okInc (.tail _ (.tail _ (.head _))) dX10_scan_60 (by decide) (.head _) (by decide)) dX10_scan_63 rfl (.head _)))
def sX10_scan : QT :=
 (sSeq (sPut 10 5 (eV 0) (eI 0))
 (sSeq (sSet 1 (eI 0))
 (sSeq (sSeq (sSet 2 (eI 0))
 (sWhile cX10_scan_1 bX10_scan_1 uX10_scan_1))
 sRetV)))
set_option maxRecDepth 100000 in
theorem oX10_scan : OkS YX10_scan [(0, 2)] [(0, 2), (1, 0)] 0 [] [] [] [] [] sX10_scan := by
  unfold sX10_scan
  exact (okSeq (p1 := 5) (Γ1 := [(0, 2)]) (okPut (p1 := 1) (p2 := 2) (k := 5) (ok_aload_n dX10_scan_0 (.head _) rfl (.head _)) (ok_iconst dX10_scan_1 (.head _) (irn (by decide) (by decide))) rfl ci_10 (by decide) kf_X10_29 rfl (fun z _ => qfit_int z) dX10_scan_2 (.head _) rfl)
 (okSeq (p1 := 7) (Γ1 := [(0, 2), (1, 0)]) (ok_istore_n (Γ' := [(0, 2), (1, 0)]) (p1 := 6) (τ := 0) (ok_iconst dX10_scan_5 (.head _) (irn (by decide) (by decide))) t_0 dX10_scan_6 rfl (by decide) (.head _) (by decide))
 (okSeq (p1 := 66) (Γ1 := [(0, 2), (1, 0)]) (okWeak (Γ1 := [(0, 2), (1, 0), (2, 0)]) (okSeq (p1 := 9) (Γ1 := [(0, 2), (1, 0), (2, 0)]) (ok_istore_n (Γ' := [(0, 2), (1, 0), (2, 0)]) (p1 := 8) (τ := 0) (ok_iconst dX10_scan_7 (.head _) (irn (by decide) (by decide))) t_0 dX10_scan_8 rfl (by decide) (.head _) (by decide))
 (okWhile (T := [24]) (F := [66]) (Eb := [60]) ocX10_scan_1 (fun _ h => h) (one obX10_scan_1) ouX10_scan_1)) (by decide))
 (okRetV rfl dX10_scan_66))))
def mX10_scan : QM := qM [2] sX10_scan
theorem MX10_scan : MetY YX10_scan yX10_scan none [2] mX10_scan := metY_of rfl (by decide +kernel) (.inr (.inr (.inr (.inl ⟨rfl, rfl⟩)))) (by decide) oX10_scan

abbrev YX11_store : YT := (RX11, cX11_store, 4, 9, 234, 0)
theorem cf_X11_store : CF yX11_store 0 := ⟨by decide +kernel, by decide +kernel, by decide +kernel⟩
def cX11_store_1 : QC :=
 (cB qlt (eV 3) (eI 2))
def bX11_store_1 : QT :=
 (sArr 24 (eF 11 9 (eV 0)) (eV 3) (eI 0))
def uX11_store_1 : QT :=
 (sInc 3 1)
set_option maxRecDepth 100000 in
theorem obX11_store_1 : OkS YX11_store [(0, 2), (1, 3), (2, 2), (3, 0)] [(0, 2), (1, 3), (2, 2), (3, 0)] 99 [106] [(0, 2), (1, 3), (2, 2), (3, 0)] [112] [(0, 2), (1, 3), (2, 2), (3, 0)] [106] bX11_store_1 := by
  unfold bX11_store_1
  exact (okArr (p1 := 103) (p2 := 104) (p3 := 105) (by decide) (okF (p1 := 100) (k := 9) (ok_aload_n dX11_store_99 (.head _) rfl (.head _)) ci_11 (by decide) kf_X11_43 dX11_store_100 (.head _) rfl rfl) (ok_iload_n dX11_store_103 (.head _) rfl (.tail _ (.tail _ (.tail _ (.head _)))) t_0) (okI (τ := 3) (ok_zconst dX11_store_104 (.head _) ⟨by decide, by decide⟩) t_3) dX11_store_105 (.head _))
set_option maxRecDepth 100000 in
theorem ocX11_store_1 : OkC YX11_store [(0, 2), (1, 3), (2, 2), (3, 0)] 0 94 [99] [112] cX11_store_1 := by
  unfold cX11_store_1
  exact (okCBf (p1 := 95) (p2 := 96) (τa := 0) (τb := 0) (ok_iload_n dX11_store_94 (.head _) rfl (.tail _ (.tail _ (.tail _ (.head _)))) t_0) (ok_iconst dX11_store_95 (.head _) (irn (by decide) (by decide))) (j_icmp_ge dX11_store_96 rfl) nq_lt (.head _) (.head _))
set_option maxRecDepth 100000 in
theorem ouX11_store_1 : ∀ t ∈ ([106] : List Nat), OkS YX11_store [(0, 2), (1, 3), (2, 2), (3, 0)] [(0, 2), (1, 3), (2, 2), (3, 0)] t [94] [] [] [] [] uX11_store_1 := by
  unfold uX11_store_1
  exact (one (okEnd (p1 := 109) (tg := 94) (okInc (.tail _ (.tail _ (.tail _ (.head _)))) dX11_store_106 (by decide) (.head _) (by decide)) dX11_store_109 rfl (.head _)))
def sX11_store : QT :=
 (sSeq (sDo (eCallV 10 mX10_scan [(eF 11 0 (eV 0))]))
 (sSeq (sSet 1 (eCallV 5 mX5_parse [(eF 11 1 (eV 0)), (eF 11 0 (eV 0)), (eF 11 3 (eV 0))]))
 (sSeq (sPut 11 10 (eV 0) (eF 5 3 (eF 11 1 (eV 0))))
 (sSeq (sPut 11 11 (eV 0) (eF 5 4 (eF 11 1 (eV 0))))
 (sSeq (sPut 10 1 (eF 11 0 (eV 0)) (eI 0))
 (sSeq (sIf (cNot (cE (eV 1))) (sRet (eI (-1))) sSkip)
 (sSeq (sSet 2 (eF 11 2 (eV 0)))
 (sSeq (sPut 11 2 (eV 0) (eF 11 3 (eV 0)))
 (sSeq (sPut 11 3 (eV 0) (eV 2))
 (sSeq (sDo (eCallV 8 mX8_begin [(eCallV 11 mX11_now [(eV 0)]), (eF 11 2 (eV 0))]))
 (sSeq (sDo (eCallV 11 mX11_forgetActs [(eV 0)]))
 (sSeq (sSeq (sSet 3 (eI 0))
 (sWhile cX11_store_1 bX11_store_1 uX11_store_1))
 (sRet (eF 6 1 (eF 11 2 (eV 0))))))))))))))))
set_option maxRecDepth 100000 in
theorem oX11_store : OkS YX11_store [(0, 2)] [(0, 2), (1, 3), (2, 2)] 0 [] [] [] [] [] sX11_store := by
  unfold sX11_store
  exact (okSeq (p1 := 7) (Γ1 := [(0, 2)]) (okDoV (p1 := 4) (okCons (p1 := 4) (okF (p1 := 1) (k := 0) (ok_aload_n dX11_store_0 (.head _) rfl (.head _)) ci_11 (by decide) kf_X11_12 dX11_store_1 (.head _) rfl rfl) okNil) MX10_scan cf_X10_scan ci_10 rfl kc_X10_scan km_X11_69 ki_X10_scan kv_X10_scan kn_X10 (Nat.le_of_ble_eq_true rfl) (Nat.le_of_ble_eq_true rfl) dX11_store_4 (.head _) rfl)
 (okSeq (p1 := 23) (Γ1 := [(0, 2), (1, 3)]) (ok_istore_n (Γ' := [(0, 2), (1, 3)]) (p1 := 22) (τ := 3) (okCallV (p1 := 19) (okCons (p1 := 11) (okF (p1 := 8) (k := 1) (ok_aload_n dX11_store_7 (.head _) rfl (.head _)) ci_11 (by decide) kf_X11_19 dX11_store_8 (.head _) rfl rfl) (okCons (p1 := 15) (okF (p1 := 12) (k := 0) (ok_aload_n dX11_store_11 (.head _) rfl (.head _)) ci_11 (by decide) kf_X11_12 dX11_store_12 (.head _) rfl rfl) (okCons (p1 := 19) (okF (p1 := 16) (k := 3) (ok_aload_n dX11_store_15 (.head _) rfl (.head _)) ci_11 (by decide) kf_X11_30 dX11_store_16 (.head _) rfl rfl) okNil))) MX5_parse cf_X5_parse ci_5 rfl kc_X5_parse km_X11_72 ki_X5_parse kv_X5_parse kn_X5 (Nat.le_of_ble_eq_true rfl) (Nat.le_of_ble_eq_true rfl) dX11_store_19 (.head _) (by decide) rfl (by decide)) t_3 dX11_store_22 rfl (by decide) (.head _) (by decide))
 (okSeq (p1 := 34) (Γ1 := [(0, 2), (1, 3)]) (okPut (p1 := 24) (p2 := 31) (k := 10) (ok_aload_n dX11_store_23 (.head _) rfl (.head _)) (okF (p1 := 28) (k := 3) (okF (p1 := 25) (k := 1) (ok_aload_n dX11_store_24 (.head _) rfl (.head _)) ci_11 (by decide) kf_X11_19 dX11_store_25 (.head _) rfl rfl) ci_5 (by decide) kf_X11_76 dX11_store_28 (.head _) rfl rfl) rfl ci_11 (by decide) kf_X11_79 rfl (fun z _ => qfit_int z) dX11_store_31 (.head _) rfl)
 (okSeq (p1 := 45) (Γ1 := [(0, 2), (1, 3)]) (okPut (p1 := 35) (p2 := 42) (k := 11) (ok_aload_n dX11_store_34 (.head _) rfl (.head _)) (okF (p1 := 39) (k := 4) (okF (p1 := 36) (k := 1) (ok_aload_n dX11_store_35 (.head _) rfl (.head _)) ci_11 (by decide) kf_X11_19 dX11_store_36 (.head _) rfl rfl) ci_5 (by decide) kf_X11_80 dX11_store_39 (.head _) rfl rfl) rfl ci_11 (by decide) kf_X11_47 rfl (fun z _ => qfit_int z) dX11_store_42 (.head _) rfl)
 (okSeq (p1 := 53) (Γ1 := [(0, 2), (1, 3)]) (okPut (p1 := 49) (p2 := 50) (k := 1) (okF (p1 := 46) (k := 0) (ok_aload_n dX11_store_45 (.head _) rfl (.head _)) ci_11 (by decide) kf_X11_12 dX11_store_46 (.head _) rfl rfl) (ok_iconst dX11_store_49 (.head _) (irn (by decide) (by decide))) rfl ci_10 (by decide) kf_X11_62 rfl (fun z _ => qfit_int z) dX11_store_50 (.head _) rfl)
 (okSeq (p1 := 59) (Γ1 := [(0, 2), (1, 3)]) (okIf (Γ' := [(0, 2), (1, 3)]) (T := [57]) (F := [59]) (okNot (okCEt (p1 := 54) (okI (τ := 3) (ok_iload_n dX11_store_53 (.head _) rfl (.tail _ (.head _)) t_3) t_3) (j_if_ne dX11_store_54 rfl) (.head _) (.head _))) (one (okRet (p1 := 58) (τ := 0) (ok_iconst dX11_store_57 (.head _) (irn (by decide) (by decide))) rfl (by decide) dX11_store_58)) (fun t ht => okSkip ht))
 (okSeq (p1 := 64) (Γ1 := [(0, 2), (1, 3), (2, 2)]) (ok_astore_n (Γ' := [(0, 2), (1, 3), (2, 2)]) (p1 := 63) (okF (p1 := 60) (k := 2) (ok_aload_n dX11_store_59 (.head _) rfl (.head _)) ci_11 (by decide) kf_X11_26 dX11_store_60 (.head _) rfl rfl) dX11_store_63 rfl (by decide) (.head _) (by decide))
 (okSeq (p1 := 72) (Γ1 := [(0, 2), (1, 3), (2, 2)]) (okPut (p1 := 65) (p2 := 69) (k := 2) (ok_aload_n dX11_store_64 (.head _) rfl (.head _)) (okF (p1 := 66) (k := 3) (ok_aload_n dX11_store_65 (.head _) rfl (.head _)) ci_11 (by decide) kf_X11_30 dX11_store_66 (.head _) rfl rfl) rfl ci_11 (by decide) kf_X11_26 rfl (fun z _ => qfit_obj _ z) dX11_store_69 (.head _) rfl)
 (okSeq (p1 := 77) (Γ1 := [(0, 2), (1, 3), (2, 2)]) (okPut (p1 := 73) (p2 := 74) (k := 3) (ok_aload_n dX11_store_72 (.head _) rfl (.head _)) (ok_aload_n dX11_store_73 (.head _) rfl (.tail _ (.tail _ (.head _)))) rfl ci_11 (by decide) kf_X11_30 rfl (fun z _ => qfit_obj _ z) dX11_store_74 (.head _) rfl)
 (okSeq (p1 := 88) (Γ1 := [(0, 2), (1, 3), (2, 2)]) (okDoV (p1 := 85) (okCons (p1 := 81) (okCallV (p1 := 78) (okCons (p1 := 78) (ok_aload_n dX11_store_77 (.head _) rfl (.head _)) okNil) MX11_now cf_X11_now ci_11 rfl kc_X11_now km_X11_83 ki_X11_now kv_X11_now kn_X11 (Nat.le_of_ble_eq_true rfl) (Nat.le_of_ble_eq_true rfl) dX11_store_78 (.head _) (by decide) rfl (by decide)) (okCons (p1 := 85) (okF (p1 := 82) (k := 2) (ok_aload_n dX11_store_81 (.head _) rfl (.head _)) ci_11 (by decide) kf_X11_26 dX11_store_82 (.head _) rfl rfl) okNil)) MX8_begin cf_X8_begin ci_8 rfl kc_X8_begin km_X11_87 ki_X8_begin kv_X8_begin kn_X8 (Nat.le_of_ble_eq_true rfl) (Nat.le_of_ble_eq_true rfl) dX11_store_85 (.head _) rfl)
 (okSeq (p1 := 92) (Γ1 := [(0, 2), (1, 3), (2, 2)]) (okDoV (p1 := 89) (okCons (p1 := 89) (ok_aload_n dX11_store_88 (.head _) rfl (.head _)) okNil) MX11_forgetActs cf_X11_forgetActs ci_11 rfl kc_X11_forgetActs km_X11_91 ki_X11_forgetActs kv_X11_forgetActs kn_X11 (Nat.le_of_ble_eq_true rfl) (Nat.le_of_ble_eq_true rfl) dX11_store_89 (.head _) rfl)
 (okSeq (p1 := 112) (Γ1 := [(0, 2), (1, 3), (2, 2)]) (okWeak (Γ1 := [(0, 2), (1, 3), (2, 2), (3, 0)]) (okSeq (p1 := 94) (Γ1 := [(0, 2), (1, 3), (2, 2), (3, 0)]) (ok_istore_n (Γ' := [(0, 2), (1, 3), (2, 2), (3, 0)]) (p1 := 93) (τ := 0) (ok_iconst dX11_store_92 (.head _) (irn (by decide) (by decide))) t_0 dX11_store_93 rfl (by decide) (.head _) (by decide))
 (okWhile (T := [99]) (F := [112]) (Eb := [106]) ocX11_store_1 (fun _ h => h) (one obX11_store_1) ouX11_store_1)) (by decide))
 (okRet (p1 := 119) (τ := 0) (okF (p1 := 116) (k := 1) (okF (p1 := 113) (k := 2) (ok_aload_n dX11_store_112 (.head _) rfl (.head _)) ci_11 (by decide) kf_X11_26 dX11_store_113 (.head _) rfl rfl) ci_6 (by decide) kf_X11_94 dX11_store_116 (.head _) rfl rfl) rfl (by decide) dX11_store_119)))))))))))))
def mX11_store : QM := qM [2] sX11_store
theorem MX11_store : MetY YX11_store yX11_store (some .int) [2] mX11_store := metY_of rfl (by decide +kernel) (.inl ⟨rfl, rfl⟩) (by decide) oX11_store

abbrev YX11_fault : YT := (RX11, cX11_fault, 2, 0, 0, 0)
theorem cf_X11_fault : CF yX11_fault 1 := ⟨by decide +kernel, by decide +kernel, by decide +kernel⟩
def sX11_fault : QT :=
 (sSw (eV 1) [([0], (sRet (eF 11 10 (eV 0)))), ([1], (sRet (eF 11 11 (eV 0))))] (sRet (eI (-1))))
set_option maxRecDepth 100000 in
theorem oX11_fault : OkS YX11_fault [(0, 2), (1, 0)] [(0, 2), (1, 0)] 0 [] [] [] [] [] sX11_fault := by
  unfold sX11_fault
  exact (okSw (Γ' := [(0, 2), (1, 0)]) (p1 := 1) (df := 38) (tb := [(0, 28), (1, 33)]) [([0], 28, (sRet (eF 11 10 (eV 0)))), ([1], 33, (sRet (eF 11 11 (eV 0))))] rfl (ok_iload_n dX11_fault_0 (.head _) rfl (.tail _ (.head _)) t_0) (sw_look (tb := [(0, 28), (1, 33)]) (df := 38) dX11_fault_1 (by decide +kernel) rfl (by decide +kernel))
 (okCsCons (okRet (p1 := 32) (τ := 0) (okF (p1 := 29) (k := 10) (ok_aload_n dX11_fault_28 (.head _) rfl (.head _)) ci_11 (by decide) kf_X11_79 dX11_fault_29 (.head _) rfl rfl) rfl (by decide) dX11_fault_32)
 (okCsCons (okRet (p1 := 37) (τ := 0) (okF (p1 := 34) (k := 11) (ok_aload_n dX11_fault_33 (.head _) rfl (.head _)) ci_11 (by decide) kf_X11_47 dX11_fault_34 (.head _) rfl rfl) rfl (by decide) dX11_fault_37)
 okCsNil)) (okRet (p1 := 39) (τ := 0) (ok_iconst dX11_fault_38 (.head _) (irn (by decide) (by decide))) rfl (by decide) dX11_fault_39) (by decide +kernel) (by decide +kernel))
def mX11_fault : QM := qM [2, 0] sX11_fault
theorem MX11_fault : MetY YX11_fault yX11_fault (some .int) [2, 0] mX11_fault := metY_of rfl (by decide +kernel) (.inl ⟨rfl, rfl⟩) (by decide) oX11_fault

abbrev YX11_canPass : YT := (RX11, cX11_canPass, 2, 1, 20, 3)
theorem cf_X11_canPass : CF yX11_canPass 1 := ⟨by decide +kernel, by decide +kernel, by decide +kernel⟩
def sX11_canPass : QT :=
 (sRet (eB (cAnd (cAnd (cB qge (eV 1) (eI 1)) (cB qle (eV 1) (eI 1000))) (cB qle (eV 1) (e2 iS (eI 100000) (eF 8 0 (eCallV 11 mX11_now [(eV 0)])))))))
set_option maxRecDepth 100000 in
theorem oX11_canPass : OkS YX11_canPass [(0, 2), (1, 0)] [(0, 2), (1, 0)] 0 [] [] [] [] [] sX11_canPass := by
  unfold sX11_canPass
  exact (okRet (p1 := 31) (τ := 3) (okBv (pt := 26) (pf := 30) (pe := 31) (okAnd (p1 := 12) (okAnd (p1 := 5) (okCBf (p1 := 1) (p2 := 2) (τa := 0) (τb := 0) (ok_iload_n dX11_canPass_0 (.head _) rfl (.tail _ (.head _)) t_0) (ok_iconst dX11_canPass_1 (.head _) (irn (by decide) (by decide))) (j_icmp_lt dX11_canPass_2 rfl) nq_ge (.head _) (.head _)) (okCBf (p1 := 6) (p2 := 9) (τa := 0) (τb := 0) (ok_iload_n dX11_canPass_5 (.head _) rfl (.tail _ (.head _)) t_0) (ok_sipush dX11_canPass_6 (.head _) ⟨by decide, by decide⟩) (j_icmp_gt dX11_canPass_9 rfl) nq_le (.head _) (.head _))) (okCBf (p1 := 13) (p2 := 23) (τa := 0) (τb := 0) (ok_iload_n dX11_canPass_12 (.head _) rfl (.tail _ (.head _)) t_0) (okE2 (p1 := 15) (p2 := 22) (τa := 0) (τb := 0) (ok_ldc kk_X11_149 (by decide) dX11_canPass_13 (.head _)) (okF (p1 := 19) (k := 0) (okCallV (p1 := 16) (okCons (p1 := 16) (ok_aload_n dX11_canPass_15 (.head _) rfl (.head _)) okNil) MX11_now cf_X11_now ci_11 rfl kc_X11_now km_X11_83 ki_X11_now kv_X11_now kn_X11 (Nat.le_of_ble_eq_true rfl) (Nat.le_of_ble_eq_true rfl) dX11_canPass_16 (.head _) (by decide) rfl (by decide)) ci_8 (by decide) kf_X11_141 dX11_canPass_19 (.head _) rfl rfl) (s_isub dX11_canPass_22 (.head _))) (j_icmp_gt dX11_canPass_23 rfl) nq_le (.head _) (.head _))) dX11_canPass_26 dX11_canPass_27 rfl dX11_canPass_30 (.head _) (.head _)) rfl (by decide) dX11_canPass_31)
def mX11_canPass : QM := qM [2, 0] sX11_canPass
theorem MX11_canPass : MetY YX11_canPass yX11_canPass (some .boolean) [2, 0] mX11_canPass := metY_of rfl (by decide +kernel) (.inr (.inl ⟨rfl, rfl⟩)) (by decide) oX11_canPass

abbrev YX3_copy : YT := (RX3, cX3_copy, 2, 0, 0, 9)
theorem cf_X3_copy : CF yX3_copy 1 := ⟨by decide +kernel, by decide +kernel, by decide +kernel⟩
def sX3_copy : QT :=
 (sSeq (sPut 3 0 (eV 0) (eF 3 0 (eV 1)))
 (sSeq (sPut 3 1 (eV 0) (eF 3 1 (eV 1)))
 (sSeq (sPut 3 2 (eV 0) (eF 3 2 (eV 1)))
 (sSeq (sPut 3 3 (eV 0) (eF 3 3 (eV 1)))
 (sSeq (sPut 3 4 (eV 0) (eF 3 4 (eV 1)))
 (sSeq (sPut 3 5 (eV 0) (eF 3 5 (eV 1)))
 (sSeq (sPut 3 6 (eV 0) (eF 3 6 (eV 1)))
 (sSeq (sPut 3 7 (eV 0) (eF 3 7 (eV 1)))
 (sSeq (sPut 3 8 (eV 0) (eF 3 8 (eV 1)))
 (sSeq (sPut 3 9 (eV 0) (eF 3 9 (eV 1)))
 sRetV))))))))))
set_option maxRecDepth 100000 in
theorem oX3_copy : OkS YX3_copy [(0, 2), (1, 2)] [(0, 2), (1, 2)] 0 [] [] [] [] [] sX3_copy := by
  unfold sX3_copy
  exact (okSeq (p1 := 8) (Γ1 := [(0, 2), (1, 2)]) (okPut (p1 := 1) (p2 := 5) (k := 0) (ok_aload_n dX3_copy_0 (.head _) rfl (.head _)) (okF (p1 := 2) (k := 0) (ok_aload_n dX3_copy_1 (.head _) rfl (.tail _ (.head _))) ci_3 (by decide) kf_X3_35 dX3_copy_2 (.head _) rfl rfl) rfl ci_3 (by decide) kf_X3_35 rfl (fun z _ => qfit_int z) dX3_copy_5 (.head _) rfl)
 (okSeq (p1 := 16) (Γ1 := [(0, 2), (1, 2)]) (okPut (p1 := 9) (p2 := 13) (k := 1) (ok_aload_n dX3_copy_8 (.head _) rfl (.head _)) (okF (p1 := 10) (k := 1) (ok_aload_n dX3_copy_9 (.head _) rfl (.tail _ (.head _))) ci_3 (by decide) kf_X3_39 dX3_copy_10 (.head _) rfl rfl) rfl ci_3 (by decide) kf_X3_39 rfl (fun z _ => qfit_int z) dX3_copy_13 (.head _) rfl)
 (okSeq (p1 := 24) (Γ1 := [(0, 2), (1, 2)]) (okPut (p1 := 17) (p2 := 21) (k := 2) (ok_aload_n dX3_copy_16 (.head _) rfl (.head _)) (okF (p1 := 18) (k := 2) (ok_aload_n dX3_copy_17 (.head _) rfl (.tail _ (.head _))) ci_3 (by decide) kf_X3_43 dX3_copy_18 (.head _) rfl rfl) rfl ci_3 (by decide) kf_X3_43 rfl (fun z _ => qfit_int z) dX3_copy_21 (.head _) rfl)
 (okSeq (p1 := 32) (Γ1 := [(0, 2), (1, 2)]) (okPut (p1 := 25) (p2 := 29) (k := 3) (ok_aload_n dX3_copy_24 (.head _) rfl (.head _)) (okF (p1 := 26) (k := 3) (ok_aload_n dX3_copy_25 (.head _) rfl (.tail _ (.head _))) ci_3 (by decide) kf_X3_9 dX3_copy_26 (.head _) rfl rfl) rfl ci_3 (by decide) kf_X3_9 rfl (fun z _ => qfit_int z) dX3_copy_29 (.head _) rfl)
 (okSeq (p1 := 40) (Γ1 := [(0, 2), (1, 2)]) (okPut (p1 := 33) (p2 := 37) (k := 4) (ok_aload_n dX3_copy_32 (.head _) rfl (.head _)) (okF (p1 := 34) (k := 4) (ok_aload_n dX3_copy_33 (.head _) rfl (.tail _ (.head _))) ci_3 (by decide) kf_X3_16 dX3_copy_34 (.head _) rfl rfl) rfl ci_3 (by decide) kf_X3_16 rfl (fun z _ => qfit_int z) dX3_copy_37 (.head _) rfl)
 (okSeq (p1 := 48) (Γ1 := [(0, 2), (1, 2)]) (okPut (p1 := 41) (p2 := 45) (k := 5) (ok_aload_n dX3_copy_40 (.head _) rfl (.head _)) (okF (p1 := 42) (k := 5) (ok_aload_n dX3_copy_41 (.head _) rfl (.tail _ (.head _))) ci_3 (by decide) kf_X3_19 dX3_copy_42 (.head _) rfl rfl) rfl ci_3 (by decide) kf_X3_19 rfl (fun z _ => qfit_int z) dX3_copy_45 (.head _) rfl)
 (okSeq (p1 := 56) (Γ1 := [(0, 2), (1, 2)]) (okPut (p1 := 49) (p2 := 53) (k := 6) (ok_aload_n dX3_copy_48 (.head _) rfl (.head _)) (okF (p1 := 50) (k := 6) (ok_aload_n dX3_copy_49 (.head _) rfl (.tail _ (.head _))) ci_3 (by decide) kf_X3_44 dX3_copy_50 (.head _) rfl rfl) rfl ci_3 (by decide) kf_X3_44 rfl (fun z _ => qfit_int z) dX3_copy_53 (.head _) rfl)
 (okSeq (p1 := 64) (Γ1 := [(0, 2), (1, 2)]) (okPut (p1 := 57) (p2 := 61) (k := 7) (ok_aload_n dX3_copy_56 (.head _) rfl (.head _)) (okF (p1 := 58) (k := 7) (ok_aload_n dX3_copy_57 (.head _) rfl (.tail _ (.head _))) ci_3 (by decide) kf_X3_47 dX3_copy_58 (.head _) rfl rfl) rfl ci_3 (by decide) kf_X3_47 rfl (fun z _ => qfit_long z) dX3_copy_61 (.head _) rfl)
 (okSeq (p1 := 72) (Γ1 := [(0, 2), (1, 2)]) (okPut (p1 := 65) (p2 := 69) (k := 8) (ok_aload_n dX3_copy_64 (.head _) rfl (.head _)) (okF (p1 := 66) (k := 8) (ok_aload_n dX3_copy_65 (.head _) rfl (.tail _ (.head _))) ci_3 (by decide) kf_X3_23 dX3_copy_66 (.head _) rfl rfl) rfl ci_3 (by decide) kf_X3_23 rfl (fun z _ => qfit_int z) dX3_copy_69 (.head _) rfl)
 (okSeq (p1 := 80) (Γ1 := [(0, 2), (1, 2)]) (okPut (p1 := 73) (p2 := 77) (k := 9) (ok_aload_n dX3_copy_72 (.head _) rfl (.head _)) (okF (p1 := 74) (k := 9) (ok_aload_n dX3_copy_73 (.head _) rfl (.tail _ (.head _))) ci_3 (by decide) kf_X3_27 dX3_copy_74 (.head _) rfl rfl) rfl ci_3 (by decide) kf_X3_27 rfl (fun z _ => qfit_int z) dX3_copy_77 (.head _) rfl)
 (okRetV rfl dX3_copy_80)))))))))))
def mX3_copy : QM := qM [2, 2] sX3_copy
theorem MX3_copy : MetY YX3_copy yX3_copy none [2, 2] mX3_copy := metY_of rfl (by decide +kernel) (.inr (.inr (.inr (.inl ⟨rfl, rfl⟩)))) (by decide) oX3_copy

abbrev YX4_copy : YT := (RX4, cX4_copy, 2, 1, 60, 9)
theorem cf_X4_copy : CF yX4_copy 1 := ⟨by decide +kernel, by decide +kernel, by decide +kernel⟩
def sX4_copy : QT :=
 (sSeq (sPut 4 0 (eV 0) (eF 4 0 (eV 1)))
 (sSeq (sPut 4 1 (eV 0) (eF 4 1 (eV 1)))
 (sSeq (sPut 4 2 (eV 0) (eF 4 2 (eV 1)))
 (sSeq (sPut 4 7 (eV 0) (eF 4 7 (eV 1)))
 (sSeq (sCopy 20 (eF 4 3 (eV 1)) (eI 0) (eF 4 3 (eV 0)) (eI 0) (eI 24))
 (sSeq (sCopy 20 (eF 4 4 (eV 1)) (eI 0) (eF 4 4 (eV 0)) (eI 0) (eI 24))
 (sSeq (sCopy 20 (eF 4 5 (eV 1)) (eI 0) (eF 4 5 (eV 0)) (eI 0) (eI 30))
 (sSeq (sCopy 24 (eF 4 6 (eV 1)) (eI 0) (eF 4 6 (eV 0)) (eI 0) (eI 30))
 sRetV))))))))
set_option maxRecDepth 100000 in
theorem oX4_copy : OkS YX4_copy [(0, 2), (1, 2)] [(0, 2), (1, 2)] 0 [] [] [] [] [] sX4_copy := by
  unfold sX4_copy
  exact (okSeq (p1 := 8) (Γ1 := [(0, 2), (1, 2)]) (okPut (p1 := 1) (p2 := 5) (k := 0) (ok_aload_n dX4_copy_0 (.head _) rfl (.head _)) (okF (p1 := 2) (k := 0) (ok_aload_n dX4_copy_1 (.head _) rfl (.tail _ (.head _))) ci_4 (by decide) kf_X4_25 dX4_copy_2 (.head _) rfl rfl) rfl ci_4 (by decide) kf_X4_25 rfl (fun _ h => qfit_bool h) dX4_copy_5 (.head _) rfl)
 (okSeq (p1 := 16) (Γ1 := [(0, 2), (1, 2)]) (okPut (p1 := 9) (p2 := 13) (k := 1) (ok_aload_n dX4_copy_8 (.head _) rfl (.head _)) (okF (p1 := 10) (k := 1) (ok_aload_n dX4_copy_9 (.head _) rfl (.tail _ (.head _))) ci_4 (by decide) kf_X4_29 dX4_copy_10 (.head _) rfl rfl) rfl ci_4 (by decide) kf_X4_29 rfl (fun z _ => qfit_int z) dX4_copy_13 (.head _) rfl)
 (okSeq (p1 := 24) (Γ1 := [(0, 2), (1, 2)]) (okPut (p1 := 17) (p2 := 21) (k := 2) (ok_aload_n dX4_copy_16 (.head _) rfl (.head _)) (okF (p1 := 18) (k := 2) (ok_aload_n dX4_copy_17 (.head _) rfl (.tail _ (.head _))) ci_4 (by decide) kf_X4_33 dX4_copy_18 (.head _) rfl rfl) rfl ci_4 (by decide) kf_X4_33 rfl (fun z _ => qfit_int z) dX4_copy_21 (.head _) rfl)
 (okSeq (p1 := 32) (Γ1 := [(0, 2), (1, 2)]) (okPut (p1 := 25) (p2 := 29) (k := 7) (ok_aload_n dX4_copy_24 (.head _) rfl (.head _)) (okF (p1 := 26) (k := 7) (ok_aload_n dX4_copy_25 (.head _) rfl (.tail _ (.head _))) ci_4 (by decide) kf_X4_36 dX4_copy_26 (.head _) rfl rfl) rfl ci_4 (by decide) kf_X4_36 rfl (fun z _ => qfit_int z) dX4_copy_29 (.head _) rfl)
 (okSeq (p1 := 47) (Γ1 := [(0, 2), (1, 2)]) (okCopy (p1 := 36) (p2 := 37) (p3 := 41) (p4 := 42) (p5 := 44) (.inl rfl) (okF (p1 := 33) (k := 3) (ok_aload_n dX4_copy_32 (.head _) rfl (.tail _ (.head _))) ci_4 (by decide) kf_X4_9 dX4_copy_33 (.head _) rfl rfl) (ok_iconst dX4_copy_36 (.head _) (irn (by decide) (by decide))) (okF (p1 := 38) (k := 3) (ok_aload_n dX4_copy_37 (.head _) rfl (.head _)) ci_4 (by decide) kf_X4_9 dX4_copy_38 (.head _) rfl rfl) (ok_iconst dX4_copy_41 (.head _) (irn (by decide) (by decide))) (ok_bipush dX4_copy_42 (.head _) (irn4 (by decide) (by decide))) km_X4_39 kN_o4_49 ks_o4_48 kn_J10 (Nat.le_of_ble_eq_true rfl) (Nat.le_of_ble_eq_true rfl) dX4_copy_44 (.head _))
 (okSeq (p1 := 62) (Γ1 := [(0, 2), (1, 2)]) (okCopy (p1 := 51) (p2 := 52) (p3 := 56) (p4 := 57) (p5 := 59) (.inl rfl) (okF (p1 := 48) (k := 4) (ok_aload_n dX4_copy_47 (.head _) rfl (.tail _ (.head _))) ci_4 (by decide) kf_X4_15 dX4_copy_48 (.head _) rfl rfl) (ok_iconst dX4_copy_51 (.head _) (irn (by decide) (by decide))) (okF (p1 := 53) (k := 4) (ok_aload_n dX4_copy_52 (.head _) rfl (.head _)) ci_4 (by decide) kf_X4_15 dX4_copy_53 (.head _) rfl rfl) (ok_iconst dX4_copy_56 (.head _) (irn (by decide) (by decide))) (ok_bipush dX4_copy_57 (.head _) (irn4 (by decide) (by decide))) km_X4_39 kN_o4_49 ks_o4_48 kn_J10 (Nat.le_of_ble_eq_true rfl) (Nat.le_of_ble_eq_true rfl) dX4_copy_59 (.head _))
 (okSeq (p1 := 77) (Γ1 := [(0, 2), (1, 2)]) (okCopy (p1 := 66) (p2 := 67) (p3 := 71) (p4 := 72) (p5 := 74) (.inl rfl) (okF (p1 := 63) (k := 5) (ok_aload_n dX4_copy_62 (.head _) rfl (.tail _ (.head _))) ci_4 (by decide) kf_X4_18 dX4_copy_63 (.head _) rfl rfl) (ok_iconst dX4_copy_66 (.head _) (irn (by decide) (by decide))) (okF (p1 := 68) (k := 5) (ok_aload_n dX4_copy_67 (.head _) rfl (.head _)) ci_4 (by decide) kf_X4_18 dX4_copy_68 (.head _) rfl rfl) (ok_iconst dX4_copy_71 (.head _) (irn (by decide) (by decide))) (ok_bipush dX4_copy_72 (.head _) (irn4 (by decide) (by decide))) km_X4_39 kN_o4_49 ks_o4_48 kn_J10 (Nat.le_of_ble_eq_true rfl) (Nat.le_of_ble_eq_true rfl) dX4_copy_74 (.head _))
 (okSeq (p1 := 92) (Γ1 := [(0, 2), (1, 2)]) (okCopy (p1 := 81) (p2 := 82) (p3 := 86) (p4 := 87) (p5 := 89) (.inr rfl) (okF (p1 := 78) (k := 6) (ok_aload_n dX4_copy_77 (.head _) rfl (.tail _ (.head _))) ci_4 (by decide) kf_X4_21 dX4_copy_78 (.head _) rfl rfl) (ok_iconst dX4_copy_81 (.head _) (irn (by decide) (by decide))) (okF (p1 := 83) (k := 6) (ok_aload_n dX4_copy_82 (.head _) rfl (.head _)) ci_4 (by decide) kf_X4_21 dX4_copy_83 (.head _) rfl rfl) (ok_iconst dX4_copy_86 (.head _) (irn (by decide) (by decide))) (ok_bipush dX4_copy_87 (.head _) (irn4 (by decide) (by decide))) km_X4_39 kN_o4_49 ks_o4_48 kn_J10 (Nat.le_of_ble_eq_true rfl) (Nat.le_of_ble_eq_true rfl) dX4_copy_89 (.head _))
 (okRetV rfl dX4_copy_92)))))))))
def mX4_copy : QM := qM [2, 2] sX4_copy
theorem MX4_copy : MetY YX4_copy yX4_copy none [2, 2] mX4_copy := metY_of rfl (by decide +kernel) (.inr (.inr (.inr (.inl ⟨rfl, rfl⟩)))) (by decide) oX4_copy

abbrev YX9_copy : YT := (RX9, cX9_copy, 2, 0, 0, 9)
theorem cf_X9_copy : CF yX9_copy 1 := ⟨by decide +kernel, by decide +kernel, by decide +kernel⟩
def sX9_copy : QT :=
 (sSeq (sPut 9 0 (eV 0) (eF 9 0 (eV 1)))
 (sSeq (sPut 9 1 (eV 0) (eF 9 1 (eV 1)))
 (sSeq (sPut 9 2 (eV 0) (eF 9 2 (eV 1)))
 (sSeq (sPut 9 3 (eV 0) (eF 9 3 (eV 1)))
 (sSeq (sPut 9 4 (eV 0) (eF 9 4 (eV 1)))
 (sSeq (sPut 9 5 (eV 0) (eF 9 5 (eV 1)))
 sRetV))))))
set_option maxRecDepth 100000 in
theorem oX9_copy : OkS YX9_copy [(0, 2), (1, 2)] [(0, 2), (1, 2)] 0 [] [] [] [] [] sX9_copy := by
  unfold sX9_copy
  exact (okSeq (p1 := 8) (Γ1 := [(0, 2), (1, 2)]) (okPut (p1 := 1) (p2 := 5) (k := 0) (ok_aload_n dX9_copy_0 (.head _) rfl (.head _)) (okF (p1 := 2) (k := 0) (ok_aload_n dX9_copy_1 (.head _) rfl (.tail _ (.head _))) ci_9 (by decide) kf_X9_22 dX9_copy_2 (.head _) rfl rfl) rfl ci_9 (by decide) kf_X9_22 rfl (fun z _ => qfit_long z) dX9_copy_5 (.head _) rfl)
 (okSeq (p1 := 16) (Γ1 := [(0, 2), (1, 2)]) (okPut (p1 := 9) (p2 := 13) (k := 1) (ok_aload_n dX9_copy_8 (.head _) rfl (.head _)) (okF (p1 := 10) (k := 1) (ok_aload_n dX9_copy_9 (.head _) rfl (.tail _ (.head _))) ci_9 (by decide) kf_X9_26 dX9_copy_10 (.head _) rfl rfl) rfl ci_9 (by decide) kf_X9_26 rfl (fun z _ => qfit_int z) dX9_copy_13 (.head _) rfl)
 (okSeq (p1 := 24) (Γ1 := [(0, 2), (1, 2)]) (okPut (p1 := 17) (p2 := 21) (k := 2) (ok_aload_n dX9_copy_16 (.head _) rfl (.head _)) (okF (p1 := 18) (k := 2) (ok_aload_n dX9_copy_17 (.head _) rfl (.tail _ (.head _))) ci_9 (by decide) kf_X9_29 dX9_copy_18 (.head _) rfl rfl) rfl ci_9 (by decide) kf_X9_29 rfl (fun z _ => qfit_int z) dX9_copy_21 (.head _) rfl)
 (okSeq (p1 := 32) (Γ1 := [(0, 2), (1, 2)]) (okPut (p1 := 25) (p2 := 29) (k := 3) (ok_aload_n dX9_copy_24 (.head _) rfl (.head _)) (okF (p1 := 26) (k := 3) (ok_aload_n dX9_copy_25 (.head _) rfl (.tail _ (.head _))) ci_9 (by decide) kf_X9_10 dX9_copy_26 (.head _) rfl rfl) rfl ci_9 (by decide) kf_X9_10 rfl (fun z _ => qfit_int z) dX9_copy_29 (.head _) rfl)
 (okSeq (p1 := 40) (Γ1 := [(0, 2), (1, 2)]) (okPut (p1 := 33) (p2 := 37) (k := 4) (ok_aload_n dX9_copy_32 (.head _) rfl (.head _)) (okF (p1 := 34) (k := 4) (ok_aload_n dX9_copy_33 (.head _) rfl (.tail _ (.head _))) ci_9 (by decide) kf_X9_16 dX9_copy_34 (.head _) rfl rfl) rfl ci_9 (by decide) kf_X9_16 rfl (fun z _ => qfit_int z) dX9_copy_37 (.head _) rfl)
 (okSeq (p1 := 48) (Γ1 := [(0, 2), (1, 2)]) (okPut (p1 := 41) (p2 := 45) (k := 5) (ok_aload_n dX9_copy_40 (.head _) rfl (.head _)) (okF (p1 := 42) (k := 5) (ok_aload_n dX9_copy_41 (.head _) rfl (.tail _ (.head _))) ci_9 (by decide) kf_X9_19 dX9_copy_42 (.head _) rfl rfl) rfl ci_9 (by decide) kf_X9_19 rfl (fun z _ => qfit_int z) dX9_copy_45 (.head _) rfl)
 (okRetV rfl dX9_copy_48)))))))
def mX9_copy : QM := qM [2, 2] sX9_copy
theorem MX9_copy : MetY YX9_copy yX9_copy none [2, 2] mX9_copy := metY_of rfl (by decide +kernel) (.inr (.inr (.inr (.inl ⟨rfl, rfl⟩)))) (by decide) oX9_copy

abbrev YX7_copy : YT := (RX7, cX7_copy, 3, 1, 60, 9)
theorem cf_X7_copy : CF yX7_copy 1 := ⟨by decide +kernel, by decide +kernel, by decide +kernel⟩
def cX7_copy_1 : QC :=
 (cB qlt (eV 2) (eI 4))
def bX7_copy_1 : QT :=
 (sDo (eCallV 9 mX9_copy [(eA 39 (eF 7 1 (eV 0)) (eV 2)), (eA 39 (eF 7 1 (eV 1)) (eV 2))]))
def uX7_copy_1 : QT :=
 (sInc 2 1)
set_option maxRecDepth 100000 in
theorem obX7_copy_1 : OkS YX7_copy [(0, 2), (1, 2), (2, 0)] [(0, 2), (1, 2), (2, 0)] 22 [37] [(0, 2), (1, 2), (2, 0)] [43] [(0, 2), (1, 2), (2, 0)] [37] bX7_copy_1 := by
  unfold bX7_copy_1
  exact (okDoV (p1 := 34) (okCons (p1 := 28) (ok_aaload (C := RX9) (by decide) rfl rfl (p1 := 26) (p2 := 27) (okF (p1 := 23) (k := 1) (ok_aload_n dX7_copy_22 (.head _) rfl (.head _)) ci_7 (by decide) kf_X7_17 dX7_copy_23 (.head _) rfl rfl) (ok_iload_n dX7_copy_26 (.head _) rfl (.tail _ (.tail _ (.head _))) t_0) dX7_copy_27 (.head _)) (okCons (p1 := 34) (ok_aaload (C := RX9) (by decide) rfl rfl (p1 := 32) (p2 := 33) (okF (p1 := 29) (k := 1) (ok_aload_n dX7_copy_28 (.head _) rfl (.tail _ (.head _))) ci_7 (by decide) kf_X7_17 dX7_copy_29 (.head _) rfl rfl) (ok_iload_n dX7_copy_32 (.head _) rfl (.tail _ (.tail _ (.head _))) t_0) dX7_copy_33 (.head _)) okNil)) MX9_copy cf_X9_copy ci_9 rfl kc_X9_copy km_X7_31 ki_X9_copy kv_X9_copy kn_X9 (Nat.le_of_ble_eq_true rfl) (Nat.le_of_ble_eq_true rfl) dX7_copy_34 (.head _) rfl)
set_option maxRecDepth 100000 in
theorem ocX7_copy_1 : OkC YX7_copy [(0, 2), (1, 2), (2, 0)] 0 17 [22] [43] cX7_copy_1 := by
  unfold cX7_copy_1
  exact (okCBf (p1 := 18) (p2 := 19) (τa := 0) (τb := 0) (ok_iload_n dX7_copy_17 (.head _) rfl (.tail _ (.tail _ (.head _))) t_0) (ok_iconst dX7_copy_18 (.head _) (irn (by decide) (by decide))) (j_icmp_ge dX7_copy_19 rfl) nq_lt (.head _) (.head _))
set_option maxRecDepth 100000 in
theorem ouX7_copy_1 : ∀ t ∈ ([37] : List Nat), OkS YX7_copy [(0, 2), (1, 2), (2, 0)] [(0, 2), (1, 2), (2, 0)] t [17] [] [] [] [] uX7_copy_1 := by
  unfold uX7_copy_1
  exact (one (okEnd (p1 := 40) (tg := 17) (okInc (.tail _ (.tail _ (.head _))) dX7_copy_37 (by decide) (.head _) (by decide)) dX7_copy_40 rfl (.head _)))
def sX7_copy : QT :=
 (sSeq (sCopy 20 (eF 7 0 (eV 1)) (eI 0) (eF 7 0 (eV 0)) (eI 0) (eI 120))
 (sSeq (sSeq (sSet 2 (eI 0))
 (sWhile cX7_copy_1 bX7_copy_1 uX7_copy_1))
 sRetV))
set_option maxRecDepth 100000 in
theorem oX7_copy : OkS YX7_copy [(0, 2), (1, 2)] [(0, 2), (1, 2)] 0 [] [] [] [] [] sX7_copy := by
  unfold sX7_copy
  exact (okSeq (p1 := 15) (Γ1 := [(0, 2), (1, 2)]) (okCopy (p1 := 4) (p2 := 5) (p3 := 9) (p4 := 10) (p5 := 12) (.inl rfl) (okF (p1 := 1) (k := 0) (ok_aload_n dX7_copy_0 (.head _) rfl (.tail _ (.head _))) ci_7 (by decide) kf_X7_11 dX7_copy_1 (.head _) rfl rfl) (ok_iconst dX7_copy_4 (.head _) (irn (by decide) (by decide))) (okF (p1 := 6) (k := 0) (ok_aload_n dX7_copy_5 (.head _) rfl (.head _)) ci_7 (by decide) kf_X7_11 dX7_copy_6 (.head _) rfl rfl) (ok_iconst dX7_copy_9 (.head _) (irn (by decide) (by decide))) (ok_bipush dX7_copy_10 (.head _) (irn4 (by decide) (by decide))) km_X7_25 kN_o4_49 ks_o4_48 kn_J10 (Nat.le_of_ble_eq_true rfl) (Nat.le_of_ble_eq_true rfl) dX7_copy_12 (.head _))
 (okSeq (p1 := 43) (Γ1 := [(0, 2), (1, 2)]) (okWeak (Γ1 := [(0, 2), (1, 2), (2, 0)]) (okSeq (p1 := 17) (Γ1 := [(0, 2), (1, 2), (2, 0)]) (ok_istore_n (Γ' := [(0, 2), (1, 2), (2, 0)]) (p1 := 16) (τ := 0) (ok_iconst dX7_copy_15 (.head _) (irn (by decide) (by decide))) t_0 dX7_copy_16 rfl (by decide) (.head _) (by decide))
 (okWhile (T := [22]) (F := [43]) (Eb := [37]) ocX7_copy_1 (fun _ h => h) (one obX7_copy_1) ouX7_copy_1)) (by decide))
 (okRetV rfl dX7_copy_43)))
def mX7_copy : QM := qM [2, 2] sX7_copy
theorem MX7_copy : MetY YX7_copy yX7_copy none [2, 2] mX7_copy := metY_of rfl (by decide +kernel) (.inr (.inr (.inr (.inl ⟨rfl, rfl⟩)))) (by decide) oX7_copy

abbrev YX8_copy : YT := (RX8, cX8_copy, 3, 2, 82, 9)
theorem cf_X8_copy : CF yX8_copy 1 := ⟨by decide +kernel, by decide +kernel, by decide +kernel⟩
def cX8_copy_1 : QC :=
 (cB qlt (eV 2) (eI 4))
def bX8_copy_1 : QT :=
 (sSeq (sDo (eCallV 3 mX3_copy [(eA 33 (eF 8 2 (eV 0)) (eV 2)), (eA 33 (eF 8 2 (eV 1)) (eV 2))]))
 (sDo (eCallV 4 mX4_copy [(eA 34 (eF 8 3 (eV 0)) (eV 2)), (eA 34 (eF 8 3 (eV 1)) (eV 2))])))
def uX8_copy_1 : QT :=
 (sInc 2 1)
set_option maxRecDepth 100000 in
theorem obX8_copy_1 : OkS YX8_copy [(0, 2), (1, 2), (2, 0)] [(0, 2), (1, 2), (2, 0)] 23 [53] [(0, 2), (1, 2), (2, 0)] [59] [(0, 2), (1, 2), (2, 0)] [53] bX8_copy_1 := by
  unfold bX8_copy_1
  exact (okSeq (p1 := 38) (Γ1 := [(0, 2), (1, 2), (2, 0)]) (okDoV (p1 := 35) (okCons (p1 := 29) (ok_aaload (C := RX3) (by decide) rfl rfl (p1 := 27) (p2 := 28) (okF (p1 := 24) (k := 2) (ok_aload_n dX8_copy_23 (.head _) rfl (.head _)) ci_8 (by decide) kf_X8_11 dX8_copy_24 (.head _) rfl rfl) (ok_iload_n dX8_copy_27 (.head _) rfl (.tail _ (.tail _ (.head _))) t_0) dX8_copy_28 (.head _)) (okCons (p1 := 35) (ok_aaload (C := RX3) (by decide) rfl rfl (p1 := 33) (p2 := 34) (okF (p1 := 30) (k := 2) (ok_aload_n dX8_copy_29 (.head _) rfl (.tail _ (.head _))) ci_8 (by decide) kf_X8_11 dX8_copy_30 (.head _) rfl rfl) (ok_iload_n dX8_copy_33 (.head _) rfl (.tail _ (.tail _ (.head _))) t_0) dX8_copy_34 (.head _)) okNil)) MX3_copy cf_X3_copy ci_3 rfl kc_X3_copy km_X8_54 ki_X3_copy kv_X3_copy kn_X3 (Nat.le_of_ble_eq_true rfl) (Nat.le_of_ble_eq_true rfl) dX8_copy_35 (.head _) rfl)
 (okDoV (p1 := 50) (okCons (p1 := 44) (ok_aaload (C := RX4) (by decide) rfl rfl (p1 := 42) (p2 := 43) (okF (p1 := 39) (k := 3) (ok_aload_n dX8_copy_38 (.head _) rfl (.head _)) ci_8 (by decide) kf_X8_19 dX8_copy_39 (.head _) rfl rfl) (ok_iload_n dX8_copy_42 (.head _) rfl (.tail _ (.tail _ (.head _))) t_0) dX8_copy_43 (.head _)) (okCons (p1 := 50) (ok_aaload (C := RX4) (by decide) rfl rfl (p1 := 48) (p2 := 49) (okF (p1 := 45) (k := 3) (ok_aload_n dX8_copy_44 (.head _) rfl (.tail _ (.head _))) ci_8 (by decide) kf_X8_19 dX8_copy_45 (.head _) rfl rfl) (ok_iload_n dX8_copy_48 (.head _) rfl (.tail _ (.tail _ (.head _))) t_0) dX8_copy_49 (.head _)) okNil)) MX4_copy cf_X4_copy ci_4 rfl kc_X4_copy km_X8_58 ki_X4_copy kv_X4_copy kn_X4 (Nat.le_of_ble_eq_true rfl) (Nat.le_of_ble_eq_true rfl) dX8_copy_50 (.head _) rfl))
set_option maxRecDepth 100000 in
theorem ocX8_copy_1 : OkC YX8_copy [(0, 2), (1, 2), (2, 0)] 0 18 [23] [59] cX8_copy_1 := by
  unfold cX8_copy_1
  exact (okCBf (p1 := 19) (p2 := 20) (τa := 0) (τb := 0) (ok_iload_n dX8_copy_18 (.head _) rfl (.tail _ (.tail _ (.head _))) t_0) (ok_iconst dX8_copy_19 (.head _) (irn (by decide) (by decide))) (j_icmp_ge dX8_copy_20 rfl) nq_lt (.head _) (.head _))
set_option maxRecDepth 100000 in
theorem ouX8_copy_1 : ∀ t ∈ ([53] : List Nat), OkS YX8_copy [(0, 2), (1, 2), (2, 0)] [(0, 2), (1, 2), (2, 0)] t [18] [] [] [] [] uX8_copy_1 := by
  unfold uX8_copy_1
  exact (one (okEnd (p1 := 56) (tg := 18) (okInc (.tail _ (.tail _ (.head _))) dX8_copy_53 (by decide) (.head _) (by decide)) dX8_copy_56 rfl (.head _)))
def cX8_copy_2 : QC :=
 (cB qlt (eV 2) (eI 4))
def bX8_copy_2 : QT :=
 (sDo (eCallV 7 mX7_copy [(eA 37 (eF 8 4 (eV 0)) (eV 2)), (eA 37 (eF 8 4 (eV 1)) (eV 2))]))
def uX8_copy_2 : QT :=
 (sInc 2 1)
set_option maxRecDepth 100000 in
theorem obX8_copy_2 : OkS YX8_copy [(0, 2), (1, 2), (2, 0)] [(0, 2), (1, 2), (2, 0)] 66 [81] [(0, 2), (1, 2), (2, 0)] [87] [(0, 2), (1, 2), (2, 0)] [81] bX8_copy_2 := by
  unfold bX8_copy_2
  exact (okDoV (p1 := 78) (okCons (p1 := 72) (ok_aaload (C := RX7) (by decide) rfl rfl (p1 := 70) (p2 := 71) (okF (p1 := 67) (k := 4) (ok_aload_n dX8_copy_66 (.head _) rfl (.head _)) ci_8 (by decide) kf_X8_25 dX8_copy_67 (.head _) rfl rfl) (ok_iload_n dX8_copy_70 (.head _) rfl (.tail _ (.tail _ (.head _))) t_0) dX8_copy_71 (.head _)) (okCons (p1 := 78) (ok_aaload (C := RX7) (by decide) rfl rfl (p1 := 76) (p2 := 77) (okF (p1 := 73) (k := 4) (ok_aload_n dX8_copy_72 (.head _) rfl (.tail _ (.head _))) ci_8 (by decide) kf_X8_25 dX8_copy_73 (.head _) rfl rfl) (ok_iload_n dX8_copy_76 (.head _) rfl (.tail _ (.tail _ (.head _))) t_0) dX8_copy_77 (.head _)) okNil)) MX7_copy cf_X7_copy ci_7 rfl kc_X7_copy km_X8_61 ki_X7_copy kv_X7_copy kn_X7 (Nat.le_of_ble_eq_true rfl) (Nat.le_of_ble_eq_true rfl) dX8_copy_78 (.head _) rfl)
set_option maxRecDepth 100000 in
theorem ocX8_copy_2 : OkC YX8_copy [(0, 2), (1, 2), (2, 0)] 0 61 [66] [87] cX8_copy_2 := by
  unfold cX8_copy_2
  exact (okCBf (p1 := 62) (p2 := 63) (τa := 0) (τb := 0) (ok_iload_n dX8_copy_61 (.head _) rfl (.tail _ (.tail _ (.head _))) t_0) (ok_iconst dX8_copy_62 (.head _) (irn (by decide) (by decide))) (j_icmp_ge dX8_copy_63 rfl) nq_lt (.head _) (.head _))
set_option maxRecDepth 100000 in
theorem ouX8_copy_2 : ∀ t ∈ ([81] : List Nat), OkS YX8_copy [(0, 2), (1, 2), (2, 0)] [(0, 2), (1, 2), (2, 0)] t [61] [] [] [] [] uX8_copy_2 := by
  unfold uX8_copy_2
  exact (one (okEnd (p1 := 84) (tg := 61) (okInc (.tail _ (.tail _ (.head _))) dX8_copy_81 (by decide) (.head _) (by decide)) dX8_copy_84 rfl (.head _)))
def sX8_copy : QT :=
 (sSeq (sPut 8 0 (eV 0) (eF 8 0 (eV 1)))
 (sSeq (sPut 8 1 (eV 0) (eF 8 1 (eV 1)))
 (sSeq (sSeq (sSet 2 (eI 0))
 (sWhile cX8_copy_1 bX8_copy_1 uX8_copy_1))
 (sSeq (sSeq (sSet 2 (eI 0))
 (sWhile cX8_copy_2 bX8_copy_2 uX8_copy_2))
 sRetV))))
set_option maxRecDepth 100000 in
theorem oX8_copy : OkS YX8_copy [(0, 2), (1, 2)] [(0, 2), (1, 2)] 0 [] [] [] [] [] sX8_copy := by
  unfold sX8_copy
  exact (okSeq (p1 := 8) (Γ1 := [(0, 2), (1, 2)]) (okPut (p1 := 1) (p2 := 5) (k := 0) (ok_aload_n dX8_copy_0 (.head _) rfl (.head _)) (okF (p1 := 2) (k := 0) (ok_aload_n dX8_copy_1 (.head _) rfl (.tail _ (.head _))) ci_8 (by decide) kf_X8_32 dX8_copy_2 (.head _) rfl rfl) rfl ci_8 (by decide) kf_X8_32 rfl (fun z _ => qfit_int z) dX8_copy_5 (.head _) rfl)
 (okSeq (p1 := 16) (Γ1 := [(0, 2), (1, 2)]) (okPut (p1 := 9) (p2 := 13) (k := 1) (ok_aload_n dX8_copy_8 (.head _) rfl (.head _)) (okF (p1 := 10) (k := 1) (ok_aload_n dX8_copy_9 (.head _) rfl (.tail _ (.head _))) ci_8 (by decide) kf_X8_36 dX8_copy_10 (.head _) rfl rfl) rfl ci_8 (by decide) kf_X8_36 rfl (fun z _ => qfit_int z) dX8_copy_13 (.head _) rfl)
 (okSeq (p1 := 59) (Γ1 := [(0, 2), (1, 2)]) (okWeak (Γ1 := [(0, 2), (1, 2), (2, 0)]) (okSeq (p1 := 18) (Γ1 := [(0, 2), (1, 2), (2, 0)]) (ok_istore_n (Γ' := [(0, 2), (1, 2), (2, 0)]) (p1 := 17) (τ := 0) (ok_iconst dX8_copy_16 (.head _) (irn (by decide) (by decide))) t_0 dX8_copy_17 rfl (by decide) (.head _) (by decide))
 (okWhile (T := [23]) (F := [59]) (Eb := [53]) ocX8_copy_1 (fun _ h => h) (one obX8_copy_1) ouX8_copy_1)) (by decide))
 (okSeq (p1 := 87) (Γ1 := [(0, 2), (1, 2)]) (okWeak (Γ1 := [(0, 2), (1, 2), (2, 0)]) (okSeq (p1 := 61) (Γ1 := [(0, 2), (1, 2), (2, 0)]) (ok_istore_n (Γ' := [(0, 2), (1, 2), (2, 0)]) (p1 := 60) (τ := 0) (ok_iconst dX8_copy_59 (.head _) (irn (by decide) (by decide))) t_0 dX8_copy_60 rfl (by decide) (.head _) (by decide))
 (okWhile (T := [66]) (F := [87]) (Eb := [81]) ocX8_copy_2 (fun _ h => h) (one obX8_copy_2) ouX8_copy_2)) (by decide))
 (okRetV rfl dX8_copy_87)))))
def mX8_copy : QM := qM [2, 2] sX8_copy
theorem MX8_copy : MetY YX8_copy yX8_copy none [2, 2] mX8_copy := metY_of rfl (by decide +kernel) (.inr (.inr (.inr (.inl ⟨rfl, rfl⟩)))) (by decide) oX8_copy

abbrev YX11_newAct : YT := (RX11, cX11_newAct, 2, 3, 104, 2)
theorem cf_X11_newAct : CF yX11_newAct 0 := ⟨by decide +kernel, by decide +kernel, by decide +kernel⟩
def sX11_newAct : QT :=
 (sSeq (sSet 1 (eD iR (e2 iA (eF 11 5 (eV 0)) (eI 1)) (eI 13)))
 (sSeq (sDo (eCallV 8 mX8_copy [(eA 38 (eF 11 4 (eV 0)) (eV 1)), (eA 38 (eF 11 4 (eV 0)) (eF 11 5 (eV 0)))]))
 (sSeq (sPut 11 5 (eV 0) (eV 1))
 (sSeq (sPut 11 6 (eV 0) (e2 iMin (e2 iA (eF 11 6 (eV 0)) (eI 1)) (eI 12)))
 (sSeq (sPut 11 7 (eV 0) (eI 0))
 (sRet (eA 38 (eF 11 4 (eV 0)) (eV 1))))))))
set_option maxRecDepth 100000 in
theorem oX11_newAct : OkS YX11_newAct [(0, 2)] [(0, 2), (1, 0)] 0 [] [] [] [] [] sX11_newAct := by
  unfold sX11_newAct
  exact (okSeq (p1 := 10) (Γ1 := [(0, 2), (1, 0)]) (ok_istore_n (Γ' := [(0, 2), (1, 0)]) (p1 := 9) (τ := 0) (okED (p1 := 6) (p2 := 8) (τa := 0) (τb := 0) (okE2 (p1 := 4) (p2 := 5) (τa := 0) (τb := 0) (okF (p1 := 1) (k := 5) (ok_aload_n dX11_newAct_0 (.head _) rfl (.head _)) ci_11 (by decide) kf_X11_128 dX11_newAct_1 (.head _) rfl rfl) (ok_iconst dX11_newAct_4 (.head _) (irn (by decide) (by decide))) (s_iadd dX11_newAct_5 (.head _))) (ok_bipush dX11_newAct_6 (.head _) (irn4 (by decide) (by decide))) (s_irem dX11_newAct_8 (.head _))) t_0 dX11_newAct_9 rfl (by decide) (.head _) (by decide))
 (okSeq (p1 := 28) (Γ1 := [(0, 2), (1, 0)]) (okDoV (p1 := 25) (okCons (p1 := 16) (ok_aaload (C := RX8) (by decide) rfl rfl (p1 := 14) (p2 := 15) (okF (p1 := 11) (k := 4) (ok_aload_n dX11_newAct_10 (.head _) rfl (.head _)) ci_11 (by decide) kf_X11_35 dX11_newAct_11 (.head _) rfl rfl) (ok_iload_n dX11_newAct_14 (.head _) rfl (.tail _ (.head _)) t_0) dX11_newAct_15 (.head _)) (okCons (p1 := 25) (ok_aaload (C := RX8) (by decide) rfl rfl (p1 := 20) (p2 := 24) (okF (p1 := 17) (k := 4) (ok_aload_n dX11_newAct_16 (.head _) rfl (.head _)) ci_11 (by decide) kf_X11_35 dX11_newAct_17 (.head _) rfl rfl) (okF (p1 := 21) (k := 5) (ok_aload_n dX11_newAct_20 (.head _) rfl (.head _)) ci_11 (by decide) kf_X11_128 dX11_newAct_21 (.head _) rfl rfl) dX11_newAct_24 (.head _)) okNil)) MX8_copy cf_X8_copy ci_8 rfl kc_X8_copy km_X11_137 ki_X8_copy kv_X8_copy kn_X8 (Nat.le_of_ble_eq_true rfl) (Nat.le_of_ble_eq_true rfl) dX11_newAct_25 (.head _) rfl)
 (okSeq (p1 := 33) (Γ1 := [(0, 2), (1, 0)]) (okPut (p1 := 29) (p2 := 30) (k := 5) (ok_aload_n dX11_newAct_28 (.head _) rfl (.head _)) (ok_iload_n dX11_newAct_29 (.head _) rfl (.tail _ (.head _)) t_0) rfl ci_11 (by decide) kf_X11_128 rfl (fun z _ => qfit_int z) dX11_newAct_30 (.head _) rfl)
 (okSeq (p1 := 48) (Γ1 := [(0, 2), (1, 0)]) (okPut (p1 := 34) (p2 := 45) (k := 6) (ok_aload_n dX11_newAct_33 (.head _) rfl (.head _)) (okMin (p1 := 40) (p2 := 42) (okE2 (p1 := 38) (p2 := 39) (τa := 0) (τb := 0) (okF (p1 := 35) (k := 6) (ok_aload_n dX11_newAct_34 (.head _) rfl (.head _)) ci_11 (by decide) kf_X11_125 dX11_newAct_35 (.head _) rfl rfl) (ok_iconst dX11_newAct_38 (.head _) (irn (by decide) (by decide))) (s_iadd dX11_newAct_39 (.head _))) (ok_bipush dX11_newAct_40 (.head _) (irn4 (by decide) (by decide))) (by decide) km_X11_144 (Nat.le_of_ble_eq_true rfl) (Nat.le_of_ble_eq_true rfl) dX11_newAct_42 (.head _)) rfl ci_11 (by decide) kf_X11_125 rfl (fun z _ => qfit_int z) dX11_newAct_45 (.head _) rfl)
 (okSeq (p1 := 53) (Γ1 := [(0, 2), (1, 0)]) (okPut (p1 := 49) (p2 := 50) (k := 7) (ok_aload_n dX11_newAct_48 (.head _) rfl (.head _)) (ok_iconst dX11_newAct_49 (.head _) (irn (by decide) (by decide))) rfl ci_11 (by decide) kf_X11_131 rfl (fun z _ => qfit_int z) dX11_newAct_50 (.head _) rfl)
 (okRet (p1 := 59) (τ := 2) (ok_aaload (C := RX8) (by decide) rfl rfl (p1 := 57) (p2 := 58) (okF (p1 := 54) (k := 4) (ok_aload_n dX11_newAct_53 (.head _) rfl (.head _)) ci_11 (by decide) kf_X11_35 dX11_newAct_54 (.head _) rfl rfl) (ok_iload_n dX11_newAct_57 (.head _) rfl (.tail _ (.head _)) t_0) dX11_newAct_58 (.head _)) rfl (by decide) dX11_newAct_59))))))
def mX11_newAct : QM := qM [2] sX11_newAct
theorem MX11_newAct : MetY YX11_newAct yX11_newAct (some (.object RX8)) [2] mX11_newAct := metY_of rfl (by decide +kernel) (.inr (.inr (.inr (.inr ⟨_, rfl, rfl⟩)))) (by decide) oX11_newAct

abbrev YX11_quotient_ : YT := (RX11, cX11_quotient_, 2, 0, 0, 0)
theorem cf_X11_quotient_ : CF yX11_quotient_ 2 := ⟨by decide +kernel, by decide +kernel, by decide +kernel⟩
def sX11_quotient_ : QT :=
 (sRet (eIf (cB qeq (eV 1) (eI 0)) (eI 0) (eD iD (eV 0) (eV 1))))
set_option maxRecDepth 100000 in
theorem oX11_quotient_ : OkS YX11_quotient_ [(0, 0), (1, 0)] [(0, 0), (1, 0)] 0 [] [] [] [] [] sX11_quotient_ := by
  unfold sX11_quotient_
  exact (okRet (p1 := 11) (τ := 0) (okIfE (pt := 4) (pf := 8) (p1 := 5) (pe := 11) (okCZf (p1 := 1) (τa := 0) (ok_iload_n dX11_quotient__0 (.head _) rfl (.tail _ (.head _)) t_0) (j_if_ne dX11_quotient__1 rfl) nq_eq (.head _) (.head _)) (ok_iconst dX11_quotient__4 (.head _) (irn (by decide) (by decide))) dX11_quotient__5 rfl (.head _) (okED (p1 := 9) (p2 := 10) (τa := 0) (τb := 0) (ok_iload_n dX11_quotient__8 (.head _) rfl (.head _) t_0) (ok_iload_n dX11_quotient__9 (.head _) rfl (.tail _ (.head _)) t_0) (s_idiv dX11_quotient__10 (.head _)))) rfl (by decide) dX11_quotient__11)
def mX11_quotient_ : QM := qM [0, 0] sX11_quotient_
theorem MX11_quotient_ : MetY YX11_quotient_ yX11_quotient_ (some .int) [0, 0] mX11_quotient_ := metY_of rfl (by decide +kernel) (.inl ⟨rfl, rfl⟩) (by decide) oX11_quotient_

abbrev YX11_remainder : YT := (RX11, cX11_remainder, 2, 0, 0, 0)
theorem cf_X11_remainder : CF yX11_remainder 2 := ⟨by decide +kernel, by decide +kernel, by decide +kernel⟩
def sX11_remainder : QT :=
 (sRet (eIf (cB qeq (eV 1) (eI 0)) (eI 0) (eD iR (eV 0) (eV 1))))
set_option maxRecDepth 100000 in
theorem oX11_remainder : OkS YX11_remainder [(0, 0), (1, 0)] [(0, 0), (1, 0)] 0 [] [] [] [] [] sX11_remainder := by
  unfold sX11_remainder
  exact (okRet (p1 := 11) (τ := 0) (okIfE (pt := 4) (pf := 8) (p1 := 5) (pe := 11) (okCZf (p1 := 1) (τa := 0) (ok_iload_n dX11_remainder_0 (.head _) rfl (.tail _ (.head _)) t_0) (j_if_ne dX11_remainder_1 rfl) nq_eq (.head _) (.head _)) (ok_iconst dX11_remainder_4 (.head _) (irn (by decide) (by decide))) dX11_remainder_5 rfl (.head _) (okED (p1 := 9) (p2 := 10) (τa := 0) (τb := 0) (ok_iload_n dX11_remainder_8 (.head _) rfl (.head _) t_0) (ok_iload_n dX11_remainder_9 (.head _) rfl (.tail _ (.head _)) t_0) (s_irem dX11_remainder_10 (.head _)))) rfl (by decide) dX11_remainder_11)
def mX11_remainder : QM := qM [0, 0] sX11_remainder
theorem MX11_remainder : MetY YX11_remainder yX11_remainder (some .int) [0, 0] mX11_remainder := metY_of rfl (by decide +kernel) (.inl ⟨rfl, rfl⟩) (by decide) oX11_remainder

abbrev YX3_gather : YT := (RX3, cX3_gather, 2, 0, 0, 9)
theorem cf_X3_gather : CF yX3_gather 1 := ⟨by decide +kernel, by decide +kernel, by decide +kernel⟩
def sX3_gather : QT :=
 (sSeq (sIf (cB qne (eF 3 4 (eV 0)) (eI (-2147483648))) (sSeq (sPutC 3 7 (eV 0) lA (e2 lM (eF 3 4 (eV 0)) (eV 1)))
 (sPutC 3 6 (eV 0) iA (eV 1))) sSkip)
 sRetV)
set_option maxRecDepth 100000 in
theorem oX3_gather : OkS YX3_gather [(0, 2), (1, 0)] [(0, 2), (1, 0)] 0 [] [] [] [] [] sX3_gather := by
  unfold sX3_gather
  exact (okSeq (p1 := 36) (Γ1 := [(0, 2), (1, 0)]) (okIf (Γ' := [(0, 2), (1, 0)]) (T := [9]) (F := [36]) (okCBf (p1 := 4) (p2 := 6) (τa := 0) (τb := 0) (okF (p1 := 1) (k := 4) (ok_aload_n dX3_gather_0 (.head _) rfl (.head _)) ci_3 (by decide) kf_X3_16 dX3_gather_1 (.head _) rfl rfl) (ok_ldc kk_X3_15 (by decide) dX3_gather_4 (.head _)) (j_icmp_eq dX3_gather_6 rfl) nq_ne (.head _) (.head _)) (one (okSeq (p1 := 26) (Γ1 := [(0, 2), (1, 0)]) (okPutC (p1 := 10) (p2 := 22) (p3 := 23) (k := 7) (τ := 1) (τb := 1) (ok_aload_n dX3_gather_9 (.head _) rfl (.head _)) dX3_gather_10 dX3_gather_11 (okE2 (p1 := 19) (p2 := 21) (τa := 1) (τb := 1) (okL (p1 := 18) (okF (p1 := 15) (k := 4) (ok_aload_n dX3_gather_14 (.head _) rfl (.head _)) ci_3 (by decide) kf_X3_16 dX3_gather_15 (.head _) rfl rfl) dX3_gather_18 (.head _)) (okL (p1 := 20) (ok_iload_n dX3_gather_19 (.head _) rfl (.tail _ (.head _)) t_0) dX3_gather_20 (.head _)) (s_lmul dX3_gather_21 (.head _))) (s_ladd dX3_gather_22 (.head _)) rfl ci_3 (by decide) kf_X3_47 rfl (fun z _ => qfit_long z) dX3_gather_23 (.head _) rfl)
 (okPutC (p1 := 27) (p2 := 32) (p3 := 33) (k := 6) (τ := 0) (τb := 0) (ok_aload_n dX3_gather_26 (.head _) rfl (.head _)) dX3_gather_27 dX3_gather_28 (ok_iload_n dX3_gather_31 (.head _) rfl (.tail _ (.head _)) t_0) (s_iadd dX3_gather_32 (.head _)) rfl ci_3 (by decide) kf_X3_44 rfl (fun z _ => qfit_int z) dX3_gather_33 (.head _) rfl))) (fun t ht => okSkip ht))
 (okRetV rfl dX3_gather_36))
def mX3_gather : QM := qM [2, 0] sX3_gather
theorem MX3_gather : MetY YX3_gather yX3_gather none [2, 0] mX3_gather := metY_of rfl (by decide +kernel) (.inr (.inr (.inr (.inl ⟨rfl, rfl⟩)))) (by decide) oX3_gather

abbrev YX2_numberMost : YT := (RX2, cX2_numberMost, 1, 1, 21, 0)
theorem cf_X2_numberMost : CF yX2_numberMost 0 := ⟨by decide +kernel, by decide +kernel, by decide +kernel⟩
def sX2_numberMost : QT :=
 (sRet (eIf (cB qeq (eF 2 0 (eV 0)) (eI 2)) (e2 iMin (eI 999999) (e2 iS (e2 iSh (eI 1) (eF 2 2 (eV 0))) (eI 1))) (eI 999999)))
set_option maxRecDepth 100000 in
theorem oX2_numberMost : OkS YX2_numberMost [(0, 2)] [(0, 2)] 0 [] [] [] [] [] sX2_numberMost := by
  unfold sX2_numberMost
  exact (okRet (p1 := 26) (τ := 0) (okIfE (pt := 8) (pf := 24) (p1 := 21) (pe := 26) (okCBf (p1 := 4) (p2 := 5) (τa := 0) (τb := 0) (okF (p1 := 1) (k := 0) (ok_aload_n dX2_numberMost_0 (.head _) rfl (.head _)) ci_2 (by decide) kf_X2_22 dX2_numberMost_1 (.head _) rfl rfl) (ok_iconst dX2_numberMost_4 (.head _) (irn (by decide) (by decide))) (j_icmp_ne dX2_numberMost_5 rfl) nq_eq (.head _) (.head _)) (okMin (p1 := 10) (p2 := 18) (ok_ldc kk_X2_15 (by decide) dX2_numberMost_8 (.head _)) (okE2 (p1 := 16) (p2 := 17) (τa := 0) (τb := 0) (okE2 (p1 := 11) (p2 := 15) (τa := 0) (τb := 0) (ok_iconst dX2_numberMost_10 (.head _) (irn (by decide) (by decide))) (okF (p1 := 12) (k := 2) (ok_aload_n dX2_numberMost_11 (.head _) rfl (.head _)) ci_2 (by decide) kf_X2_25 dX2_numberMost_12 (.head _) rfl rfl) (s_ishl dX2_numberMost_15 (.head _))) (ok_iconst dX2_numberMost_16 (.head _) (irn (by decide) (by decide))) (s_isub dX2_numberMost_17 (.head _))) (by decide) km_X2_28 (Nat.le_of_ble_eq_true rfl) (Nat.le_of_ble_eq_true rfl) dX2_numberMost_18 (.head _)) dX2_numberMost_21 rfl (.head _) (ok_ldc kk_X2_15 (by decide) dX2_numberMost_24 (.head _))) rfl (by decide) dX2_numberMost_26)
def mX2_numberMost : QM := qM [2] sX2_numberMost
theorem MX2_numberMost : MetY YX2_numberMost yX2_numberMost (some .int) [2] mX2_numberMost := metY_of rfl (by decide +kernel) (.inl ⟨rfl, rfl⟩) (by decide) oX2_numberMost

abbrev YX11_quotient : YT := (RX11, cX11_quotient, 4, 0, 0, 1)
theorem cf_X11_quotient : CF yX11_quotient 2 := ⟨by decide +kernel, by decide +kernel, by decide +kernel⟩
def sX11_quotient : QT :=
 (sRet (eIf (cB qeq (eV 2) (eI 0)) (eI 0) (eD lD (eV 0) (eV 2))))
set_option maxRecDepth 100000 in
theorem oX11_quotient : OkS YX11_quotient [(0, 1), (2, 1)] [(0, 1), (2, 1)] 0 [] [] [] [] [] sX11_quotient := by
  unfold sX11_quotient
  exact (okRet (p1 := 13) (τ := 1) (okIfE (pt := 6) (pf := 10) (p1 := 7) (pe := 13) (okCBf (p1 := 1) (p2 := 2) (τa := 1) (τb := 1) (ok_lload_n dX11_quotient_0 (.head _) rfl (.tail _ (.head _))) (ok_lconst0 dX11_quotient_1 (.head _)) (j_lcmp_ne dX11_quotient_2 dX11_quotient_3 rfl) nq_eq (.head _) (.head _)) (ok_lconst0 dX11_quotient_6 (.head _)) dX11_quotient_7 rfl (.head _) (okED (p1 := 11) (p2 := 12) (τa := 1) (τb := 1) (ok_lload_n dX11_quotient_10 (.head _) rfl (.head _)) (ok_lload_n dX11_quotient_11 (.head _) rfl (.tail _ (.head _))) (s_ldiv dX11_quotient_12 (.head _)))) rfl (by decide) dX11_quotient_13)
def mX11_quotient : QM := qM [1, 1] sX11_quotient
theorem MX11_quotient : MetY YX11_quotient yX11_quotient (some .long) [1, 1] mX11_quotient := metY_of rfl (by decide +kernel) (.inr (.inr (.inl ⟨rfl, rfl⟩))) (by decide) oX11_quotient

abbrev YX3_risen : YT := (RX3, cX3_risen, 5, 0, 0, 0)
theorem cf_X3_risen : CF yX3_risen 2 := ⟨by decide +kernel, by decide +kernel, by decide +kernel⟩
def sX3_risen : QT :=
 (sSeq (sSet 3 (e2 iS (eV 2) (eF 3 3 (eV 0))))
 (sSeq (sIf (cB qge (eV 3) (eI 0)) (sRet (eV 3)) sSkip)
 (sSeq (sSet 4 (e2 iA (eV 3) (e2 iSh (eI 1) (eF 2 1 (eV 1)))))
 (sRet (eIf (cB qge (eV 4) (eI 0)) (eV 4) (e2 iA (eV 3) (e2 iSh (eI 1) (eF 2 2 (eV 1)))))))))
set_option maxRecDepth 100000 in
theorem oX3_risen : OkS YX3_risen [(0, 2), (1, 2), (2, 0)] [(0, 2), (1, 2), (2, 0), (3, 0), (4, 0)] 0 [] [] [] [] [] sX3_risen := by
  unfold sX3_risen
  exact (okSeq (p1 := 7) (Γ1 := [(0, 2), (1, 2), (2, 0), (3, 0)]) (ok_istore_n (Γ' := [(0, 2), (1, 2), (2, 0), (3, 0)]) (p1 := 6) (τ := 0) (okE2 (p1 := 1) (p2 := 5) (τa := 0) (τb := 0) (ok_iload_n dX3_risen_0 (.head _) rfl (.tail _ (.tail _ (.head _))) t_0) (okF (p1 := 2) (k := 3) (ok_aload_n dX3_risen_1 (.head _) rfl (.head _)) ci_3 (by decide) kf_X3_9 dX3_risen_2 (.head _) rfl rfl) (s_isub dX3_risen_5 (.head _))) t_0 dX3_risen_6 rfl (by decide) (.head _) (by decide))
 (okSeq (p1 := 13) (Γ1 := [(0, 2), (1, 2), (2, 0), (3, 0)]) (okIf (Γ' := [(0, 2), (1, 2), (2, 0), (3, 0)]) (T := [11]) (F := [13]) (okCZf (p1 := 8) (τa := 0) (ok_iload_n dX3_risen_7 (.head _) rfl (.tail _ (.tail _ (.tail _ (.head _)))) t_0) (j_if_lt dX3_risen_8 rfl) nq_ge (.head _) (.head _)) (one (okRet (p1 := 12) (τ := 0) (ok_iload_n dX3_risen_11 (.head _) rfl (.tail _ (.tail _ (.tail _ (.head _)))) t_0) rfl (by decide) dX3_risen_12)) (fun t ht => okSkip ht))
 (okSeq (p1 := 23) (Γ1 := [(0, 2), (1, 2), (2, 0), (3, 0), (4, 0)]) (ok_istore (Γ' := [(0, 2), (1, 2), (2, 0), (3, 0), (4, 0)]) (p1 := 21) (τ := 0) (okE2 (p1 := 14) (p2 := 20) (τa := 0) (τb := 0) (ok_iload_n dX3_risen_13 (.head _) rfl (.tail _ (.tail _ (.tail _ (.head _)))) t_0) (okE2 (p1 := 15) (p2 := 19) (τa := 0) (τb := 0) (ok_iconst dX3_risen_14 (.head _) (irn (by decide) (by decide))) (okF (p1 := 16) (k := 1) (ok_aload_n dX3_risen_15 (.head _) rfl (.tail _ (.head _))) ci_2 (by decide) kf_X3_73 dX3_risen_16 (.head _) rfl rfl) (s_ishl dX3_risen_19 (.head _))) (s_iadd dX3_risen_20 (.head _))) t_0 dX3_risen_21 (by decide) (.head _) (by decide))
 (okRet (p1 := 41) (τ := 0) (okIfE (pt := 28) (pf := 33) (p1 := 30) (pe := 41) (okCZf (p1 := 25) (τa := 0) (ok_iload dX3_risen_23 (.head _) (.tail _ (.tail _ (.tail _ (.tail _ (.head _))))) t_0) (j_if_lt dX3_risen_25 rfl) nq_ge (.head _) (.head _)) (ok_iload dX3_risen_28 (.head _) (.tail _ (.tail _ (.tail _ (.tail _ (.head _))))) t_0) dX3_risen_30 rfl (.head _) (okE2 (p1 := 34) (p2 := 40) (τa := 0) (τb := 0) (ok_iload_n dX3_risen_33 (.head _) rfl (.tail _ (.tail _ (.tail _ (.head _)))) t_0) (okE2 (p1 := 35) (p2 := 39) (τa := 0) (τb := 0) (ok_iconst dX3_risen_34 (.head _) (irn (by decide) (by decide))) (okF (p1 := 36) (k := 2) (ok_aload_n dX3_risen_35 (.head _) rfl (.tail _ (.head _))) ci_2 (by decide) kf_X3_76 dX3_risen_36 (.head _) rfl rfl) (s_ishl dX3_risen_39 (.head _))) (s_iadd dX3_risen_40 (.head _)))) rfl (by decide) dX3_risen_41))))
def mX3_risen : QM := qM [2, 2, 0] sX3_risen
theorem MX3_risen : MetY YX3_risen yX3_risen (some .int) [2, 2, 0] mX3_risen := metY_of rfl (by decide +kernel) (.inl ⟨rfl, rfl⟩) (by decide) oX3_risen

abbrev YX3_rateBy : YT := (RX3, cX3_rateBy, 8, 2, 41, 0)
theorem cf_X3_rateBy : CF yX3_rateBy 3 := ⟨by decide +kernel, by decide +kernel, by decide +kernel⟩
def sX3_rateBy : QT :=
 (sSeq (sIf (cOr (cOr (cB qgt (eV 2) (eF 3 0 (eV 0))) (cB qlt (eV 3) (eI 0))) (cB qgt (eV 3) (eCallV 2 mX2_numberMost [(eV 1)]))) (sRet (eI (-2147483648))) sSkip)
 (sSeq (sIf (cAnd (cB qeq (eF 2 0 (eV 1)) (eI 2)) (cB qeq (eF 3 3 (eV 0)) (eI (-1)))) (sRet (eI (-2147483648))) sSkip)
 (sSeq (sSet 4 (eIf (cB qeq (eF 2 0 (eV 1)) (eI 2)) (eCallV 3 mX3_risen [(eV 0), (eV 1), (eV 3)]) (eV 3)))
 (sSeq (sSet 6 (eCall mX11_quotient [(e2 lM (eV 4) (eI 1000)), (eIf (cB qeq (eF 2 0 (eV 1)) (eI 0)) (eI 1) (eV 2))]))
 (sRet (eIf (cOr (cB qlt (eV 6) (e2 lM (eF 3 1 (eV 0)) (eI 1000))) (cB qgt (eV 6) (e2 lM (eF 3 2 (eV 0)) (eI 1000)))) (eI (-2147483648)) (e1 w32 (eV 6))))))))
set_option maxRecDepth 100000 in
theorem oX3_rateBy : OkS YX3_rateBy [(0, 2), (1, 2), (2, 0), (3, 0)] [(0, 2), (1, 2), (2, 0), (3, 0), (4, 1), (6, 1)] 0 [] [] [] [] [] sX3_rateBy := by
  unfold sX3_rateBy
  exact (okSeq (p1 := 23) (Γ1 := [(0, 2), (1, 2), (2, 0), (3, 0)]) (okIf (Γ' := [(0, 2), (1, 2), (2, 0), (3, 0)]) (T := [20]) (F := [23]) (okOr (p1 := 12) (okOr (p1 := 8) (okCBt (p1 := 1) (p2 := 5) (τa := 0) (τb := 0) (ok_iload_n dX3_rateBy_0 (.head _) rfl (.tail _ (.tail _ (.head _))) t_0) (okF (p1 := 2) (k := 0) (ok_aload_n dX3_rateBy_1 (.head _) rfl (.head _)) ci_3 (by decide) kf_X3_35 dX3_rateBy_2 (.head _) rfl rfl) (j_icmp_gt dX3_rateBy_5 rfl) (.head _) (.head _)) (okCZt (p1 := 9) (τa := 0) (ok_iload_n dX3_rateBy_8 (.head _) rfl (.tail _ (.tail _ (.tail _ (.head _)))) t_0) (j_if_lt dX3_rateBy_9 rfl) (.head _) (.head _))) (okCBf (p1 := 13) (p2 := 17) (τa := 0) (τb := 0) (ok_iload_n dX3_rateBy_12 (.head _) rfl (.tail _ (.tail _ (.tail _ (.head _)))) t_0) (okCallV (p1 := 14) (okCons (p1 := 14) (ok_aload_n dX3_rateBy_13 (.head _) rfl (.tail _ (.head _))) okNil) MX2_numberMost cf_X2_numberMost ci_2 rfl kc_X2_numberMost km_X3_59 ki_X2_numberMost kv_X2_numberMost kn_X2 (Nat.le_of_ble_eq_true rfl) (Nat.le_of_ble_eq_true rfl) dX3_rateBy_14 (.head _) (by decide) rfl (by decide)) (j_icmp_le dX3_rateBy_17 rfl) nq_gt (.head _) (.head _))) (one (okRet (p1 := 22) (τ := 0) (ok_ldc kk_X3_15 (by decide) dX3_rateBy_20 (.head _)) rfl (by decide) dX3_rateBy_22)) (fun t ht => okSkip ht))
 (okSeq (p1 := 42) (Γ1 := [(0, 2), (1, 2), (2, 0), (3, 0)]) (okIf (Γ' := [(0, 2), (1, 2), (2, 0), (3, 0)]) (T := [39]) (F := [42]) (okAnd (p1 := 31) (okCBf (p1 := 27) (p2 := 28) (τa := 0) (τb := 0) (okF (p1 := 24) (k := 0) (ok_aload_n dX3_rateBy_23 (.head _) rfl (.tail _ (.head _))) ci_2 (by decide) kf_X3_56 dX3_rateBy_24 (.head _) rfl rfl) (ok_iconst dX3_rateBy_27 (.head _) (irn (by decide) (by decide))) (j_icmp_ne dX3_rateBy_28 rfl) nq_eq (.head _) (.head _)) (okCBf (p1 := 35) (p2 := 36) (τa := 0) (τb := 0) (okF (p1 := 32) (k := 3) (ok_aload_n dX3_rateBy_31 (.head _) rfl (.head _)) ci_3 (by decide) kf_X3_9 dX3_rateBy_32 (.head _) rfl rfl) (ok_iconst dX3_rateBy_35 (.head _) (irn (by decide) (by decide))) (j_icmp_ne dX3_rateBy_36 rfl) nq_eq (.head _) (.head _))) (one (okRet (p1 := 41) (τ := 0) (ok_ldc kk_X3_15 (by decide) dX3_rateBy_39 (.head _)) rfl (by decide) dX3_rateBy_41)) (fun t ht => okSkip ht))
 (okSeq (p1 := 64) (Γ1 := [(0, 2), (1, 2), (2, 0), (3, 0), (4, 1)]) (ok_lstore (Γ' := [(0, 2), (1, 2), (2, 0), (3, 0), (4, 1)]) (p1 := 62) (okIfE (pt := 50) (pf := 60) (p1 := 57) (pe := 62) (okCBf (p1 := 46) (p2 := 47) (τa := 0) (τb := 0) (okF (p1 := 43) (k := 0) (ok_aload_n dX3_rateBy_42 (.head _) rfl (.tail _ (.head _))) ci_2 (by decide) kf_X3_56 dX3_rateBy_43 (.head _) rfl rfl) (ok_iconst dX3_rateBy_46 (.head _) (irn (by decide) (by decide))) (j_icmp_ne dX3_rateBy_47 rfl) nq_eq (.head _) (.head _)) (okL (p1 := 56) (okCallV (p1 := 53) (okCons (p1 := 51) (ok_aload_n dX3_rateBy_50 (.head _) rfl (.head _)) (okCons (p1 := 52) (ok_aload_n dX3_rateBy_51 (.head _) rfl (.tail _ (.head _))) (okCons (p1 := 53) (ok_iload_n dX3_rateBy_52 (.head _) rfl (.tail _ (.tail _ (.tail _ (.head _)))) t_0) okNil))) MX3_risen cf_X3_risen ci_3 rfl kc_X3_risen km_X3_63 ki_X3_risen kv_X3_risen kn_X3 (Nat.le_of_ble_eq_true rfl) (Nat.le_of_ble_eq_true rfl) dX3_rateBy_53 (.head _) (by decide) rfl (by decide)) dX3_rateBy_56 (.head _)) dX3_rateBy_57 rfl (.head _) (okL (p1 := 61) (ok_iload_n dX3_rateBy_60 (.head _) rfl (.tail _ (.tail _ (.tail _ (.head _)))) t_0) dX3_rateBy_61 (.head _))) dX3_rateBy_62 (by decide) (.head _) (by decide))
 (okSeq (p1 := 88) (Γ1 := [(0, 2), (1, 2), (2, 0), (3, 0), (4, 1), (6, 1)]) (ok_lstore (Γ' := [(0, 2), (1, 2), (2, 0), (3, 0), (4, 1), (6, 1)]) (p1 := 86) (okCallSN (p1 := 83) (okCons (p1 := 70) (okE2 (p1 := 66) (p2 := 69) (τa := 1) (τb := 1) (ok_lload dX3_rateBy_64 (.head _) (.tail _ (.tail _ (.tail _ (.tail _ (.head _)))))) (ok_ldc2 kj_X3_67 (by decide) dX3_rateBy_66 (.head _)) (s_lmul dX3_rateBy_69 (.head _))) (okCons (p1 := 83) (okIfE (pt := 77) (pf := 81) (p1 := 78) (pe := 83) (okCZf (p1 := 74) (τa := 0) (okF (p1 := 71) (k := 0) (ok_aload_n dX3_rateBy_70 (.head _) rfl (.tail _ (.head _))) ci_2 (by decide) kf_X3_56 dX3_rateBy_71 (.head _) rfl rfl) (j_if_ne dX3_rateBy_74 rfl) nq_eq (.head _) (.head _)) (ok_lconst1 dX3_rateBy_77 (.head _)) dX3_rateBy_78 rfl (.head _) (okL (p1 := 82) (ok_iload_n dX3_rateBy_81 (.head _) rfl (.tail _ (.tail _ (.head _))) t_0) dX3_rateBy_82 (.head _))) okNil)) MX11_quotient cf_X11_quotient kc_X11_quotient nx_X3_69 ks_X11_quotient kn_X11 (Nat.le_of_ble_eq_true rfl) (Nat.le_of_ble_eq_true rfl) dX3_rateBy_83 (.head _) (by decide) rfl (by decide)) dX3_rateBy_86 (by decide) (.head _) (by decide))
 (okRet (p1 := 126) (τ := 0) (okIfE (pt := 118) (pf := 123) (p1 := 120) (pe := 126) (okOr (p1 := 103) (okCBt (p1 := 90) (p2 := 99) (τa := 1) (τb := 1) (ok_lload dX3_rateBy_88 (.head _) (.tail _ (.tail _ (.tail _ (.tail _ (.tail _ (.head _))))))) (okE2 (p1 := 95) (p2 := 98) (τa := 1) (τb := 1) (okL (p1 := 94) (okF (p1 := 91) (k := 1) (ok_aload_n dX3_rateBy_90 (.head _) rfl (.head _)) ci_3 (by decide) kf_X3_39 dX3_rateBy_91 (.head _) rfl rfl) dX3_rateBy_94 (.head _)) (ok_ldc2 kj_X3_67 (by decide) dX3_rateBy_95 (.head _)) (s_lmul dX3_rateBy_98 (.head _))) (j_lcmp_lt dX3_rateBy_99 dX3_rateBy_100 rfl) (.head _) (.head _)) (okCBf (p1 := 105) (p2 := 114) (τa := 1) (τb := 1) (ok_lload dX3_rateBy_103 (.head _) (.tail _ (.tail _ (.tail _ (.tail _ (.tail _ (.head _))))))) (okE2 (p1 := 110) (p2 := 113) (τa := 1) (τb := 1) (okL (p1 := 109) (okF (p1 := 106) (k := 2) (ok_aload_n dX3_rateBy_105 (.head _) rfl (.head _)) ci_3 (by decide) kf_X3_43 dX3_rateBy_106 (.head _) rfl rfl) dX3_rateBy_109 (.head _)) (ok_ldc2 kj_X3_67 (by decide) dX3_rateBy_110 (.head _)) (s_lmul dX3_rateBy_113 (.head _))) (j_lcmp_le dX3_rateBy_114 dX3_rateBy_115 rfl) nq_gt (.head _) (.head _))) (ok_ldc kk_X3_15 (by decide) dX3_rateBy_118 (.head _)) dX3_rateBy_120 rfl (.head _) (okE1 (p1 := 125) (τa := 1) (ok_lload dX3_rateBy_123 (.head _) (.tail _ (.tail _ (.tail _ (.tail _ (.tail _ (.head _))))))) (s_l2i dX3_rateBy_125 (.head _)))) rfl (by decide) dX3_rateBy_126)))))
def mX3_rateBy : QM := qM [2, 2, 0, 0] sX3_rateBy
theorem MX3_rateBy : MetY YX3_rateBy yX3_rateBy (some .int) [2, 2, 0, 0] mX3_rateBy := metY_of rfl (by decide +kernel) (.inl ⟨rfl, rfl⟩) (by decide) oX3_rateBy

abbrev YX3_hear : YT := (RX3, cX3_hear, 4, 3, 68, 9)
theorem cf_X3_hear : CF yX3_hear 3 := ⟨by decide +kernel, by decide +kernel, by decide +kernel⟩
def sX3_hear : QT :=
 (sSeq (sPut 3 4 (eV 0) (eCallV 3 mX3_rateBy [(eV 0), (eV 1), (eV 2), (eV 3)]))
 (sSeq (sIf (cB qeq (eF 2 0 (eV 1)) (eI 2)) (sPut 3 3 (eV 0) (eIf (cOr (cB qlt (eV 3) (eI 0)) (cB qgt (eV 3) (eCallV 2 mX2_numberMost [(eV 1)]))) (eI (-1)) (eV 3))) sSkip)
 sRetV))
set_option maxRecDepth 100000 in
theorem oX3_hear : OkS YX3_hear [(0, 2), (1, 2), (2, 0), (3, 0)] [(0, 2), (1, 2), (2, 0), (3, 0)] 0 [] [] [] [] [] sX3_hear := by
  unfold sX3_hear
  exact (okSeq (p1 := 11) (Γ1 := [(0, 2), (1, 2), (2, 0), (3, 0)]) (okPut (p1 := 1) (p2 := 8) (k := 4) (ok_aload_n dX3_hear_0 (.head _) rfl (.head _)) (okCallV (p1 := 5) (okCons (p1 := 2) (ok_aload_n dX3_hear_1 (.head _) rfl (.head _)) (okCons (p1 := 3) (ok_aload_n dX3_hear_2 (.head _) rfl (.tail _ (.head _))) (okCons (p1 := 4) (ok_iload_n dX3_hear_3 (.head _) rfl (.tail _ (.tail _ (.head _))) t_0) (okCons (p1 := 5) (ok_iload_n dX3_hear_4 (.head _) rfl (.tail _ (.tail _ (.tail _ (.head _)))) t_0) okNil)))) MX3_rateBy cf_X3_rateBy ci_3 rfl kc_X3_rateBy km_X3_52 ki_X3_rateBy kv_X3_rateBy kn_X3 (Nat.le_of_ble_eq_true rfl) (Nat.le_of_ble_eq_true rfl) dX3_hear_5 (.head _) (by decide) rfl (by decide)) rfl ci_3 (by decide) kf_X3_16 rfl (fun z _ => qfit_int z) dX3_hear_8 (.head _) rfl)
 (okSeq (p1 := 40) (Γ1 := [(0, 2), (1, 2), (2, 0), (3, 0)]) (okIf (Γ' := [(0, 2), (1, 2), (2, 0), (3, 0)]) (T := [19]) (F := [40]) (okCBf (p1 := 15) (p2 := 16) (τa := 0) (τb := 0) (okF (p1 := 12) (k := 0) (ok_aload_n dX3_hear_11 (.head _) rfl (.tail _ (.head _))) ci_2 (by decide) kf_X3_56 dX3_hear_12 (.head _) rfl rfl) (ok_iconst dX3_hear_15 (.head _) (irn (by decide) (by decide))) (j_icmp_ne dX3_hear_16 rfl) nq_eq (.head _) (.head _)) (one (okPut (p1 := 20) (p2 := 37) (k := 3) (ok_aload_n dX3_hear_19 (.head _) rfl (.head _)) (okIfE (pt := 32) (pf := 36) (p1 := 33) (pe := 37) (okOr (p1 := 24) (okCZt (p1 := 21) (τa := 0) (ok_iload_n dX3_hear_20 (.head _) rfl (.tail _ (.tail _ (.tail _ (.head _)))) t_0) (j_if_lt dX3_hear_21 rfl) (.head _) (.head _)) (okCBf (p1 := 25) (p2 := 29) (τa := 0) (τb := 0) (ok_iload_n dX3_hear_24 (.head _) rfl (.tail _ (.tail _ (.tail _ (.head _)))) t_0) (okCallV (p1 := 26) (okCons (p1 := 26) (ok_aload_n dX3_hear_25 (.head _) rfl (.tail _ (.head _))) okNil) MX2_numberMost cf_X2_numberMost ci_2 rfl kc_X2_numberMost km_X3_59 ki_X2_numberMost kv_X2_numberMost kn_X2 (Nat.le_of_ble_eq_true rfl) (Nat.le_of_ble_eq_true rfl) dX3_hear_26 (.head _) (by decide) rfl (by decide)) (j_icmp_le dX3_hear_29 rfl) nq_gt (.head _) (.head _))) (ok_iconst dX3_hear_32 (.head _) (irn (by decide) (by decide))) dX3_hear_33 rfl (.head _) (ok_iload_n dX3_hear_36 (.head _) rfl (.tail _ (.tail _ (.tail _ (.head _)))) t_0)) rfl ci_3 (by decide) kf_X3_9 rfl (fun z _ => qfit_int z) dX3_hear_37 (.head _) rfl)) (fun t ht => okSkip ht))
 (okRetV rfl dX3_hear_40)))
def mX3_hear : QM := qM [2, 2, 0, 0] sX3_hear
theorem MX3_hear : MetY YX3_hear yX3_hear none [2, 2, 0, 0] mX3_hear := metY_of rfl (by decide +kernel) (.inr (.inr (.inr (.inl ⟨rfl, rfl⟩)))) (by decide) oX3_hear

abbrev YX11_valueOf : YT := (RX11, cX11_valueOf, 4, 1, 23, 0)
theorem cf_X11_valueOf : CF yX11_valueOf 3 := ⟨by decide +kernel, by decide +kernel, by decide +kernel⟩
def sX11_valueOf : QT :=
 (sRet (eIf (cB qge (e2 iM (eI 2) (e2 iS (eV 3) (eV 2))) (eV 3)) (eI (-2147483648)) (e1 w32 (eCall mX11_quotient [(eV 0), (eV 2)]))))
set_option maxRecDepth 100000 in
theorem oX11_valueOf : OkS YX11_valueOf [(0, 1), (2, 0), (3, 0)] [(0, 1), (2, 0), (3, 0)] 0 [] [] [] [] [] sX11_valueOf := by
  unfold sX11_valueOf
  exact (okRet (p1 := 21) (τ := 0) (okIfE (pt := 9) (pf := 14) (p1 := 11) (pe := 21) (okCBf (p1 := 5) (p2 := 6) (τa := 0) (τb := 0) (okE2 (p1 := 1) (p2 := 4) (τa := 0) (τb := 0) (ok_iconst dX11_valueOf_0 (.head _) (irn (by decide) (by decide))) (okE2 (p1 := 2) (p2 := 3) (τa := 0) (τb := 0) (ok_iload_n dX11_valueOf_1 (.head _) rfl (.tail _ (.tail _ (.head _))) t_0) (ok_iload_n dX11_valueOf_2 (.head _) rfl (.tail _ (.head _)) t_0) (s_isub dX11_valueOf_3 (.head _))) (s_imul dX11_valueOf_4 (.head _))) (ok_iload_n dX11_valueOf_5 (.head _) rfl (.tail _ (.tail _ (.head _))) t_0) (j_icmp_lt dX11_valueOf_6 rfl) nq_ge (.head _) (.head _)) (ok_ldc kk_X11_177 (by decide) dX11_valueOf_9 (.head _)) dX11_valueOf_11 rfl (.head _) (okE1 (p1 := 20) (τa := 1) (okCallS (p1 := 17) (okCons (p1 := 15) (ok_lload_n dX11_valueOf_14 (.head _) rfl (.head _)) (okCons (p1 := 17) (okL (p1 := 16) (ok_iload_n dX11_valueOf_15 (.head _) rfl (.tail _ (.head _)) t_0) dX11_valueOf_16 (.head _)) okNil)) MX11_quotient cf_X11_quotient rfl kc_X11_quotient km_X11_292 ks_X11_quotient kn_X11 (Nat.le_of_ble_eq_true rfl) (Nat.le_of_ble_eq_true rfl) dX11_valueOf_17 (.head _) (by decide) rfl (by decide)) (s_l2i dX11_valueOf_20 (.head _)))) rfl (by decide) dX11_valueOf_21)
def mX11_valueOf : QM := qM [1, 0, 0] sX11_valueOf
theorem MX11_valueOf : MetY YX11_valueOf yX11_valueOf (some .int) [1, 0, 0] mX11_valueOf := metY_of rfl (by decide +kernel) (.inl ⟨rfl, rfl⟩) (by decide) oX11_valueOf

abbrev YX3_endStep : YT := (RX3, cX3_endStep, 2, 2, 46, 9)
theorem cf_X3_endStep : CF yX3_endStep 1 := ⟨by decide +kernel, by decide +kernel, by decide +kernel⟩
def sX3_endStep : QT :=
 (sSeq (sPut 3 5 (eV 0) (eCall mX11_valueOf [(eF 3 7 (eV 0)), (eF 3 6 (eV 0)), (eV 1)]))
 (sSeq (sPut 3 7 (eV 0) (eI 0))
 (sSeq (sPut 3 6 (eV 0) (eI 0))
 (sSeq (sIf (cB qne (eF 3 5 (eV 0)) (eI (-2147483648))) (sSeq (sPut 3 8 (eV 0) (e2 iMax (eF 3 8 (eV 0)) (eF 3 5 (eV 0))))
 (sPut 3 9 (eV 0) (e2 iMin (eF 3 9 (eV 0)) (eF 3 5 (eV 0))))) sSkip)
 sRetV))))
set_option maxRecDepth 100000 in
theorem oX3_endStep : OkS YX3_endStep [(0, 2), (1, 0)] [(0, 2), (1, 0)] 0 [] [] [] [] [] sX3_endStep := by
  unfold sX3_endStep
  exact (okSeq (p1 := 16) (Γ1 := [(0, 2), (1, 0)]) (okPut (p1 := 1) (p2 := 13) (k := 5) (ok_aload_n dX3_endStep_0 (.head _) rfl (.head _)) (okCallSN (p1 := 10) (okCons (p1 := 5) (okF (p1 := 2) (k := 7) (ok_aload_n dX3_endStep_1 (.head _) rfl (.head _)) ci_3 (by decide) kf_X3_47 dX3_endStep_2 (.head _) rfl rfl) (okCons (p1 := 9) (okF (p1 := 6) (k := 6) (ok_aload_n dX3_endStep_5 (.head _) rfl (.head _)) ci_3 (by decide) kf_X3_44 dX3_endStep_6 (.head _) rfl rfl) (okCons (p1 := 10) (ok_iload_n dX3_endStep_9 (.head _) rfl (.tail _ (.head _)) t_0) okNil))) MX11_valueOf cf_X11_valueOf kc_X11_valueOf nx_X3_97 ks_X11_valueOf kn_X11 (Nat.le_of_ble_eq_true rfl) (Nat.le_of_ble_eq_true rfl) dX3_endStep_10 (.head _) (by decide) rfl (by decide)) rfl ci_3 (by decide) kf_X3_19 rfl (fun z _ => qfit_int z) dX3_endStep_13 (.head _) rfl)
 (okSeq (p1 := 21) (Γ1 := [(0, 2), (1, 0)]) (okPut (p1 := 17) (p2 := 18) (k := 7) (ok_aload_n dX3_endStep_16 (.head _) rfl (.head _)) (ok_lconst0 dX3_endStep_17 (.head _)) rfl ci_3 (by decide) kf_X3_47 rfl (fun z _ => qfit_long z) dX3_endStep_18 (.head _) rfl)
 (okSeq (p1 := 26) (Γ1 := [(0, 2), (1, 0)]) (okPut (p1 := 22) (p2 := 23) (k := 6) (ok_aload_n dX3_endStep_21 (.head _) rfl (.head _)) (ok_iconst dX3_endStep_22 (.head _) (irn (by decide) (by decide))) rfl ci_3 (by decide) kf_X3_44 rfl (fun z _ => qfit_int z) dX3_endStep_23 (.head _) rfl)
 (okSeq (p1 := 65) (Γ1 := [(0, 2), (1, 0)]) (okIf (Γ' := [(0, 2), (1, 0)]) (T := [35]) (F := [65]) (okCBf (p1 := 30) (p2 := 32) (τa := 0) (τb := 0) (okF (p1 := 27) (k := 5) (ok_aload_n dX3_endStep_26 (.head _) rfl (.head _)) ci_3 (by decide) kf_X3_19 dX3_endStep_27 (.head _) rfl rfl) (ok_ldc kk_X3_15 (by decide) dX3_endStep_30 (.head _)) (j_icmp_eq dX3_endStep_32 rfl) nq_ne (.head _) (.head _)) (one (okSeq (p1 := 50) (Γ1 := [(0, 2), (1, 0)]) (okPut (p1 := 36) (p2 := 47) (k := 8) (ok_aload_n dX3_endStep_35 (.head _) rfl (.head _)) (okMax (p1 := 40) (p2 := 44) (okF (p1 := 37) (k := 8) (ok_aload_n dX3_endStep_36 (.head _) rfl (.head _)) ci_3 (by decide) kf_X3_23 dX3_endStep_37 (.head _) rfl rfl) (okF (p1 := 41) (k := 5) (ok_aload_n dX3_endStep_40 (.head _) rfl (.head _)) ci_3 (by decide) kf_X3_19 dX3_endStep_41 (.head _) rfl rfl) (by decide) km_X3_89 (Nat.le_of_ble_eq_true rfl) (Nat.le_of_ble_eq_true rfl) dX3_endStep_44 (.head _)) rfl ci_3 (by decide) kf_X3_23 rfl (fun z _ => qfit_int z) dX3_endStep_47 (.head _) rfl)
 (okPut (p1 := 51) (p2 := 62) (k := 9) (ok_aload_n dX3_endStep_50 (.head _) rfl (.head _)) (okMin (p1 := 55) (p2 := 59) (okF (p1 := 52) (k := 9) (ok_aload_n dX3_endStep_51 (.head _) rfl (.head _)) ci_3 (by decide) kf_X3_27 dX3_endStep_52 (.head _) rfl rfl) (okF (p1 := 56) (k := 5) (ok_aload_n dX3_endStep_55 (.head _) rfl (.head _)) ci_3 (by decide) kf_X3_19 dX3_endStep_56 (.head _) rfl rfl) (by decide) km_X3_101 (Nat.le_of_ble_eq_true rfl) (Nat.le_of_ble_eq_true rfl) dX3_endStep_59 (.head _)) rfl ci_3 (by decide) kf_X3_27 rfl (fun z _ => qfit_int z) dX3_endStep_62 (.head _) rfl))) (fun t ht => okSkip ht))
 (okRetV rfl dX3_endStep_65)))))
def mX3_endStep : QM := qM [2, 0] sX3_endStep
theorem MX3_endStep : MetY YX3_endStep yX3_endStep none [2, 0] mX3_endStep := metY_of rfl (by decide +kernel) (.inr (.inr (.inr (.inl ⟨rfl, rfl⟩)))) (by decide) oX3_endStep

abbrev YX11_held : YT := (RX11, cX11_held, 2, 0, 0, 0)
theorem cf_X11_held : CF yX11_held 1 := ⟨by decide +kernel, by decide +kernel, by decide +kernel⟩
def sX11_held : QT :=
 (sSeq (sIf (cB qgt (eV 0) (eI 2000000000)) (sRet (eI 2000000000)) sSkip)
 (sRet (eIf (cB qlt (eV 0) (eI (-2000000000))) (eI (-2000000000)) (e1 w32 (eV 0)))))
set_option maxRecDepth 100000 in
theorem oX11_held : OkS YX11_held [(0, 1)] [(0, 1)] 0 [] [] [] [] [] sX11_held := by
  unfold sX11_held
  exact (okSeq (p1 := 12) (Γ1 := [(0, 1)]) (okIf (Γ' := [(0, 1)]) (T := [8]) (F := [12]) (okCBf (p1 := 1) (p2 := 4) (τa := 1) (τb := 1) (ok_lload_n dX11_held_0 (.head _) rfl (.head _)) (ok_ldc2 kj_X11_395 (by decide) dX11_held_1 (.head _)) (j_lcmp_le dX11_held_4 dX11_held_5 rfl) nq_gt (.head _) (.head _)) (one (okRet (p1 := 11) (τ := 0) (ok_ldcw kk_X11_274 (by decide) dX11_held_8 (.head _)) rfl (by decide) dX11_held_11)) (fun t ht => okSkip ht))
 (okRet (p1 := 28) (τ := 0) (okIfE (pt := 20) (pf := 26) (p1 := 23) (pe := 28) (okCBf (p1 := 13) (p2 := 16) (τa := 1) (τb := 1) (ok_lload_n dX11_held_12 (.head _) rfl (.head _)) (ok_ldc2 kj_X11_397 (by decide) dX11_held_13 (.head _)) (j_lcmp_ge dX11_held_16 dX11_held_17 rfl) nq_lt (.head _) (.head _)) (ok_ldcw kk_X11_399 (by decide) dX11_held_20 (.head _)) dX11_held_23 rfl (.head _) (okE1 (p1 := 27) (τa := 1) (ok_lload_n dX11_held_26 (.head _) rfl (.head _)) (s_l2i dX11_held_27 (.head _)))) rfl (by decide) dX11_held_28))
def mX11_held : QM := qM [1] sX11_held
theorem MX11_held : MetY YX11_held yX11_held (some .int) [1] mX11_held := metY_of rfl (by decide +kernel) (.inl ⟨rfl, rfl⟩) (by decide) oX11_held

abbrev YX4_keep : YT := (RX4, cX4_keep, 4, 0, 0, 9)
theorem cf_X4_keep : CF yX4_keep 2 := ⟨by decide +kernel, by decide +kernel, by decide +kernel⟩
def sX4_keep : QT :=
 (sSeq (sSet 3 (eD iR (eF 4 7 (eV 0)) (eI 30)))
 (sSeq (sIf (cB qge (eV 3) (eI 0)) (sSeq (sArr 20 (eF 4 5 (eV 0)) (eV 3) (eV 1))
 (sSeq (sArr 24 (eF 4 6 (eV 0)) (eV 3) (eV 2))
 (sPutC 4 7 (eV 0) iA (eI 1)))) sSkip)
 sRetV))
set_option maxRecDepth 100000 in
theorem oX4_keep : OkS YX4_keep [(0, 2), (1, 0), (2, 3)] [(0, 2), (1, 0), (2, 3), (3, 0)] 0 [] [] [] [] [] sX4_keep := by
  unfold sX4_keep
  exact (okSeq (p1 := 8) (Γ1 := [(0, 2), (1, 0), (2, 3), (3, 0)]) (ok_istore_n (Γ' := [(0, 2), (1, 0), (2, 3), (3, 0)]) (p1 := 7) (τ := 0) (okED (p1 := 4) (p2 := 6) (τa := 0) (τb := 0) (okF (p1 := 1) (k := 7) (ok_aload_n dX4_keep_0 (.head _) rfl (.head _)) ci_4 (by decide) kf_X4_36 dX4_keep_1 (.head _) rfl rfl) (ok_bipush dX4_keep_4 (.head _) (irn4 (by decide) (by decide))) (s_irem dX4_keep_6 (.head _))) t_0 dX4_keep_7 rfl (by decide) (.head _) (by decide))
 (okSeq (p1 := 36) (Γ1 := [(0, 2), (1, 0), (2, 3), (3, 0)]) (okIf (Γ' := [(0, 2), (1, 0), (2, 3), (3, 0)]) (T := [12]) (F := [36]) (okCZf (p1 := 9) (τa := 0) (ok_iload_n dX4_keep_8 (.head _) rfl (.tail _ (.tail _ (.tail _ (.head _)))) t_0) (j_if_lt dX4_keep_9 rfl) nq_ge (.head _) (.head _)) (one (okSeq (p1 := 19) (Γ1 := [(0, 2), (1, 0), (2, 3), (3, 0)]) (okArr (p1 := 16) (p2 := 17) (p3 := 18) (by decide) (okF (p1 := 13) (k := 5) (ok_aload_n dX4_keep_12 (.head _) rfl (.head _)) ci_4 (by decide) kf_X4_18 dX4_keep_13 (.head _) rfl rfl) (ok_iload_n dX4_keep_16 (.head _) rfl (.tail _ (.tail _ (.tail _ (.head _)))) t_0) (ok_iload_n dX4_keep_17 (.head _) rfl (.tail _ (.head _)) t_0) dX4_keep_18 (.head _))
 (okSeq (p1 := 26) (Γ1 := [(0, 2), (1, 0), (2, 3), (3, 0)]) (okArr (p1 := 23) (p2 := 24) (p3 := 25) (by decide) (okF (p1 := 20) (k := 6) (ok_aload_n dX4_keep_19 (.head _) rfl (.head _)) ci_4 (by decide) kf_X4_21 dX4_keep_20 (.head _) rfl rfl) (ok_iload_n dX4_keep_23 (.head _) rfl (.tail _ (.tail _ (.tail _ (.head _)))) t_0) (okI (τ := 3) (ok_iload_n dX4_keep_24 (.head _) rfl (.tail _ (.tail _ (.head _))) t_3) t_3) dX4_keep_25 (.head _))
 (okPutC (p1 := 27) (p2 := 32) (p3 := 33) (k := 7) (τ := 0) (τb := 0) (ok_aload_n dX4_keep_26 (.head _) rfl (.head _)) dX4_keep_27 dX4_keep_28 (ok_iconst dX4_keep_31 (.head _) (irn (by decide) (by decide))) (s_iadd dX4_keep_32 (.head _)) rfl ci_4 (by decide) kf_X4_36 rfl (fun z _ => qfit_int z) dX4_keep_33 (.head _) rfl)))) (fun t ht => okSkip ht))
 (okRetV rfl dX4_keep_36)))
def mX4_keep : QM := qM [2, 0, 3] sX4_keep
theorem MX4_keep : MetY YX4_keep yX4_keep none [2, 0, 3] mX4_keep := metY_of rfl (by decide +kernel) (.inr (.inr (.inr (.inl ⟨rfl, rfl⟩)))) (by decide) oX4_keep

abbrev YX4_mixed : YT := (RX4, cX4_mixed, 5, 1, 21, 0)
theorem cf_X4_mixed : CF yX4_mixed 3 := ⟨by decide +kernel, by decide +kernel, by decide +kernel⟩
def sX4_mixed : QT :=
 (sRet (eCall mX11_held [(eD lD (e2 lA (e2 lM (eV 0) (eV 1)) (e2 lM (e2 iS (eI 16) (eV 0)) (eV 3))) (eI 16))]))
set_option maxRecDepth 100000 in
theorem oX4_mixed : OkS YX4_mixed [(0, 0), (1, 1), (3, 1)] [(0, 0), (1, 1), (3, 1)] 0 [] [] [] [] [] sX4_mixed := by
  unfold sX4_mixed
  exact (okRet (p1 := 19) (τ := 0) (okCallSN (p1 := 16) (okCons (p1 := 16) (okED (p1 := 12) (p2 := 15) (τa := 1) (τb := 1) (okE2 (p1 := 4) (p2 := 11) (τa := 1) (τb := 1) (okE2 (p1 := 2) (p2 := 3) (τa := 1) (τb := 1) (okL (p1 := 1) (ok_iload_n dX4_mixed_0 (.head _) rfl (.head _) t_0) dX4_mixed_1 (.head _)) (ok_lload_n dX4_mixed_2 (.head _) rfl (.tail _ (.head _))) (s_lmul dX4_mixed_3 (.head _))) (okE2 (p1 := 9) (p2 := 10) (τa := 1) (τb := 1) (okL (p1 := 8) (okE2 (p1 := 6) (p2 := 7) (τa := 0) (τb := 0) (ok_bipush dX4_mixed_4 (.head _) (irn4 (by decide) (by decide))) (ok_iload_n dX4_mixed_6 (.head _) rfl (.head _) t_0) (s_isub dX4_mixed_7 (.head _))) dX4_mixed_8 (.head _)) (ok_lload_n dX4_mixed_9 (.head _) rfl (.tail _ (.tail _ (.head _)))) (s_lmul dX4_mixed_10 (.head _))) (s_ladd dX4_mixed_11 (.head _))) (ok_ldc2 kj_X4_82 (by decide) dX4_mixed_12 (.head _)) (s_ldiv dX4_mixed_15 (.head _))) okNil) MX11_held cf_X11_held kc_X11_held nx_X4_54 ks_X11_held kn_X11 (Nat.le_of_ble_eq_true rfl) (Nat.le_of_ble_eq_true rfl) dX4_mixed_16 (.head _) (by decide) rfl (by decide)) rfl (by decide) dX4_mixed_19)
def mX4_mixed : QM := qM [0, 1, 1] sX4_mixed
theorem MX4_mixed : MetY YX4_mixed yX4_mixed (some .int) [0, 1, 1] mX4_mixed := metY_of rfl (by decide +kernel) (.inl ⟨rfl, rfl⟩) (by decide) oX4_mixed

abbrev YX4_tellAhead : YT := (RX4, cX4_tellAhead, 5, 1, 21, 0)
theorem cf_X4_tellAhead : CF yX4_tellAhead 2 := ⟨by decide +kernel, by decide +kernel, by decide +kernel⟩
def cX4_tellAhead_1 : QC :=
 (cB qlt (eV 4) (eV 1))
def bX4_tellAhead_1 : QT :=
 (sSet 3 (eCall mX11_held [(e2 lA (eV 3) (eF 4 2 (eV 0)))]))
def uX4_tellAhead_1 : QT :=
 (sInc 4 1)
set_option maxRecDepth 100000 in
theorem obX4_tellAhead_1 : OkS YX4_tellAhead [(0, 2), (1, 0), (2, 0), (3, 0), (4, 0)] [(0, 2), (1, 0), (2, 0), (3, 0), (4, 0)] 14 [26] [(0, 2), (1, 0), (2, 0), (3, 0), (4, 0)] [32] [(0, 2), (1, 0), (2, 0), (3, 0), (4, 0)] [26] bX4_tellAhead_1 := by
  unfold bX4_tellAhead_1
  exact (okWeak (Γ1 := [(0, 2), (1, 0), (2, 0), (4, 0), (3, 0)]) (ok_istore_n (Γ' := [(0, 2), (1, 0), (2, 0), (4, 0), (3, 0)]) (p1 := 25) (τ := 0) (okCallSN (p1 := 22) (okCons (p1 := 22) (okE2 (p1 := 16) (p2 := 21) (τa := 1) (τb := 1) (okL (p1 := 15) (ok_iload_n dX4_tellAhead_14 (.head _) rfl (.tail _ (.tail _ (.tail _ (.head _)))) t_0) dX4_tellAhead_15 (.head _)) (okL (p1 := 20) (okF (p1 := 17) (k := 2) (ok_aload_n dX4_tellAhead_16 (.head _) rfl (.head _)) ci_4 (by decide) kf_X4_33 dX4_tellAhead_17 (.head _) rfl rfl) dX4_tellAhead_20 (.head _)) (s_ladd dX4_tellAhead_21 (.head _))) okNil) MX11_held cf_X11_held kc_X11_held nx_X4_54 ks_X11_held kn_X11 (Nat.le_of_ble_eq_true rfl) (Nat.le_of_ble_eq_true rfl) dX4_tellAhead_22 (.head _) (by decide) rfl (by decide)) t_0 dX4_tellAhead_25 rfl (by decide) (.head _) (by decide)) (by decide))
set_option maxRecDepth 100000 in
theorem ocX4_tellAhead_1 : OkC YX4_tellAhead [(0, 2), (1, 0), (2, 0), (3, 0), (4, 0)] 0 8 [14] [32] cX4_tellAhead_1 := by
  unfold cX4_tellAhead_1
  exact (okCBf (p1 := 10) (p2 := 11) (τa := 0) (τb := 0) (ok_iload dX4_tellAhead_8 (.head _) (.tail _ (.tail _ (.tail _ (.tail _ (.head _))))) t_0) (ok_iload_n dX4_tellAhead_10 (.head _) rfl (.tail _ (.head _)) t_0) (j_icmp_ge dX4_tellAhead_11 rfl) nq_lt (.head _) (.head _))
set_option maxRecDepth 100000 in
theorem ouX4_tellAhead_1 : ∀ t ∈ ([26] : List Nat), OkS YX4_tellAhead [(0, 2), (1, 0), (2, 0), (3, 0), (4, 0)] [(0, 2), (1, 0), (2, 0), (3, 0), (4, 0)] t [8] [] [] [] [] uX4_tellAhead_1 := by
  unfold uX4_tellAhead_1
  exact (one (okEnd (p1 := 29) (tg := 8) (okInc (.tail _ (.tail _ (.tail _ (.tail _ (.head _))))) dX4_tellAhead_26 (by decide) (.head _) (by decide)) dX4_tellAhead_29 rfl (.head _)))
def sX4_tellAhead : QT :=
 (sSeq (sSet 3 (eF 4 1 (eV 0)))
 (sSeq (sSeq (sSet 4 (eI 1))
 (sWhile cX4_tellAhead_1 bX4_tellAhead_1 uX4_tellAhead_1))
 (sSeq (sSet 4 (eIf (cAnd (cB qge (eV 2) (eI 0)) (cB qlt (eV 2) (eI 24))) (eA 20 (eF 4 3 (eV 0)) (eV 2)) (eI 0)))
 (sRet (eCall mX11_held [(e2 lA (e2 lA (eV 3) (eF 4 2 (eV 0))) (eV 4))])))))
set_option maxRecDepth 100000 in
theorem oX4_tellAhead : OkS YX4_tellAhead [(0, 2), (1, 0), (2, 0)] [(0, 2), (1, 0), (2, 0), (3, 0), (4, 0)] 0 [] [] [] [] [] sX4_tellAhead := by
  unfold sX4_tellAhead
  exact (okSeq (p1 := 5) (Γ1 := [(0, 2), (1, 0), (2, 0), (3, 0)]) (ok_istore_n (Γ' := [(0, 2), (1, 0), (2, 0), (3, 0)]) (p1 := 4) (τ := 0) (okF (p1 := 1) (k := 1) (ok_aload_n dX4_tellAhead_0 (.head _) rfl (.head _)) ci_4 (by decide) kf_X4_29 dX4_tellAhead_1 (.head _) rfl rfl) t_0 dX4_tellAhead_4 rfl (by decide) (.head _) (by decide))
 (okSeq (p1 := 32) (Γ1 := [(0, 2), (1, 0), (2, 0), (3, 0)]) (okWeak (Γ1 := [(0, 2), (1, 0), (2, 0), (3, 0), (4, 0)]) (okSeq (p1 := 8) (Γ1 := [(0, 2), (1, 0), (2, 0), (3, 0), (4, 0)]) (ok_istore (Γ' := [(0, 2), (1, 0), (2, 0), (3, 0), (4, 0)]) (p1 := 6) (τ := 0) (ok_iconst dX4_tellAhead_5 (.head _) (irn (by decide) (by decide))) t_0 dX4_tellAhead_6 (by decide) (.head _) (by decide))
 (okWhile (T := [14]) (F := [32]) (Eb := [26]) ocX4_tellAhead_1 (fun _ h => h) (one obX4_tellAhead_1) ouX4_tellAhead_1)) (by decide))
 (okSeq (p1 := 54) (Γ1 := [(0, 2), (1, 0), (2, 0), (3, 0), (4, 0)]) (ok_istore (Γ' := [(0, 2), (1, 0), (2, 0), (3, 0), (4, 0)]) (p1 := 52) (τ := 0) (okIfE (pt := 42) (pf := 51) (p1 := 48) (pe := 52) (okAnd (p1 := 36) (okCZf (p1 := 33) (τa := 0) (ok_iload_n dX4_tellAhead_32 (.head _) rfl (.tail _ (.tail _ (.head _))) t_0) (j_if_lt dX4_tellAhead_33 rfl) nq_ge (.head _) (.head _)) (okCBf (p1 := 37) (p2 := 39) (τa := 0) (τb := 0) (ok_iload_n dX4_tellAhead_36 (.head _) rfl (.tail _ (.tail _ (.head _))) t_0) (ok_bipush dX4_tellAhead_37 (.head _) (irn4 (by decide) (by decide))) (j_icmp_ge dX4_tellAhead_39 rfl) nq_lt (.head _) (.head _))) (ok_iaload (.inl rfl) (p1 := 46) (p2 := 47) (okF (p1 := 43) (k := 3) (ok_aload_n dX4_tellAhead_42 (.head _) rfl (.head _)) ci_4 (by decide) kf_X4_9 dX4_tellAhead_43 (.head _) rfl rfl) (ok_iload_n dX4_tellAhead_46 (.head _) rfl (.tail _ (.tail _ (.head _))) t_0) dX4_tellAhead_47 (.head _)) dX4_tellAhead_48 rfl (.head _) (ok_iconst dX4_tellAhead_51 (.head _) (irn (by decide) (by decide)))) t_0 dX4_tellAhead_52 (by decide) (.head _) (by decide))
 (okRet (p1 := 69) (τ := 0) (okCallSN (p1 := 66) (okCons (p1 := 66) (okE2 (p1 := 62) (p2 := 65) (τa := 1) (τb := 1) (okE2 (p1 := 56) (p2 := 61) (τa := 1) (τb := 1) (okL (p1 := 55) (ok_iload_n dX4_tellAhead_54 (.head _) rfl (.tail _ (.tail _ (.tail _ (.head _)))) t_0) dX4_tellAhead_55 (.head _)) (okL (p1 := 60) (okF (p1 := 57) (k := 2) (ok_aload_n dX4_tellAhead_56 (.head _) rfl (.head _)) ci_4 (by decide) kf_X4_33 dX4_tellAhead_57 (.head _) rfl rfl) dX4_tellAhead_60 (.head _)) (s_ladd dX4_tellAhead_61 (.head _))) (okL (p1 := 64) (ok_iload dX4_tellAhead_62 (.head _) (.tail _ (.tail _ (.tail _ (.tail _ (.head _))))) t_0) dX4_tellAhead_64 (.head _)) (s_ladd dX4_tellAhead_65 (.head _))) okNil) MX11_held cf_X11_held kc_X11_held nx_X4_54 ks_X11_held kn_X11 (Nat.le_of_ble_eq_true rfl) (Nat.le_of_ble_eq_true rfl) dX4_tellAhead_66 (.head _) (by decide) rfl (by decide)) rfl (by decide) dX4_tellAhead_69))))
def mX4_tellAhead : QM := qM [2, 0, 0] sX4_tellAhead
theorem MX4_tellAhead : MetY YX4_tellAhead yX4_tellAhead (some .int) [2, 0, 0] mX4_tellAhead := metY_of rfl (by decide +kernel) (.inl ⟨rfl, rfl⟩) (by decide) oX4_tellAhead

abbrev YX4_follow : YT := (RX4, cX4_follow, 8, 2, 45, 9)
theorem cf_X4_follow : CF yX4_follow 3 := ⟨by decide +kernel, by decide +kernel, by decide +kernel⟩
def sX4_follow : QT :=
 (sSeq (sIf (cOr (cB qlt (eV 2) (eI 0)) (cB qge (eV 2) (eI 24))) sRetV sSkip)
 (sSeq (sIf (cNot (cE (eF 4 0 (eV 0)))) (sSeq (sPut 4 0 (eV 0) (eB (cB qne (eV 3) (eI (-2147483648)))))
 (sSeq (sPut 4 1 (eV 0) (eIf (cE (eF 4 0 (eV 0))) (eV 3) (eI 0)))
 sRetV)) sSkip)
 (sSeq (sSet 4 (eCallV 4 mX4_tellAhead [(eV 0), (eI 1), (eV 2)]))
 (sSeq (sIf (cB qeq (eV 3) (eI (-2147483648))) (sSeq (sDo (eCallV 4 mX4_keep [(eV 0), (eV 4), (eI 0)]))
 (sSeq (sPut 4 1 (eV 0) (eCall mX11_held [(e2 lA (eF 4 1 (eV 0)) (eF 4 2 (eV 0)))]))
 sRetV)) sSkip)
 (sSeq (sSet 5 (e1 lAbs (e2 lS (eV 3) (eV 4))))
 (sSeq (sDo (eCallV 4 mX4_keep [(eV 0), (eV 4), (eB (cAnd (cB qgt (eA 20 (eF 4 4 (eV 0)) (eV 2)) (eI 0)) (cB qgt (eV 5) (e2 lM (eF 2 10 (eV 1)) (eA 20 (eF 4 4 (eV 0)) (eV 2))))))]))
 (sSeq (sSet 7 (eCall mX4_mixed [(eF 2 7 (eV 1)), (e2 lS (eV 3) (eA 20 (eF 4 3 (eV 0)) (eV 2))), (e2 lA (eF 4 1 (eV 0)) (eF 4 2 (eV 0)))]))
 (sSeq (sPut 4 2 (eV 0) (eCall mX4_mixed [(eF 2 8 (eV 1)), (e2 lS (eV 7) (eF 4 1 (eV 0))), (eF 4 2 (eV 0))]))
 (sSeq (sPut 4 1 (eV 0) (eV 7))
 (sSeq (sArr 20 (eF 4 3 (eV 0)) (eV 2) (eCall mX4_mixed [(eF 2 9 (eV 1)), (e2 lS (eV 3) (eV 7)), (eA 20 (eF 4 3 (eV 0)) (eV 2))]))
 (sSeq (sArr 20 (eF 4 4 (eV 0)) (eV 2) (eCall mX4_mixed [(eF 2 9 (eV 1)), (eV 5), (eA 20 (eF 4 4 (eV 0)) (eV 2))]))
 sRetV)))))))))))
set_option maxRecDepth 100000 in
theorem oX4_follow : OkS YX4_follow [(0, 2), (1, 2), (2, 0), (3, 0)] [(0, 2), (1, 2), (2, 0), (3, 0), (4, 0), (5, 1), (7, 0)] 0 [] [] [] [] [] sX4_follow := by
  unfold sX4_follow
  exact (okSeq (p1 := 11) (Γ1 := [(0, 2), (1, 2), (2, 0), (3, 0)]) (okIf (Γ' := [(0, 2), (1, 2), (2, 0), (3, 0)]) (T := [10]) (F := [11]) (okOr (p1 := 4) (okCZt (p1 := 1) (τa := 0) (ok_iload_n dX4_follow_0 (.head _) rfl (.tail _ (.tail _ (.head _))) t_0) (j_if_lt dX4_follow_1 rfl) (.head _) (.head _)) (okCBf (p1 := 5) (p2 := 7) (τa := 0) (τb := 0) (ok_iload_n dX4_follow_4 (.head _) rfl (.tail _ (.tail _ (.head _))) t_0) (ok_bipush dX4_follow_5 (.head _) (irn4 (by decide) (by decide))) (j_icmp_lt dX4_follow_7 rfl) nq_ge (.head _) (.head _))) (one (okRetV rfl dX4_follow_10)) (fun t ht => okSkip ht))
 (okSeq (p1 := 50) (Γ1 := [(0, 2), (1, 2), (2, 0), (3, 0)]) (okIf (Γ' := [(0, 2), (1, 2), (2, 0), (3, 0)]) (T := [18]) (F := [50]) (okNot (okCEt (p1 := 15) (okI (τ := 3) (okF (p1 := 12) (k := 0) (ok_aload_n dX4_follow_11 (.head _) rfl (.head _)) ci_4 (by decide) kf_X4_25 dX4_follow_12 (.head _) rfl rfl) t_3) (j_if_ne dX4_follow_15 rfl) (.head _) (.head _))) (one (okSeq (p1 := 33) (Γ1 := [(0, 2), (1, 2), (2, 0), (3, 0)]) (okPut (p1 := 19) (p2 := 30) (k := 0) (ok_aload_n dX4_follow_18 (.head _) rfl (.head _)) (okBv (pt := 25) (pf := 29) (pe := 30) (okCBf (p1 := 20) (p2 := 22) (τa := 0) (τb := 0) (ok_iload_n dX4_follow_19 (.head _) rfl (.tail _ (.tail _ (.tail _ (.head _)))) t_0) (ok_ldc kk_X4_45 (by decide) dX4_follow_20 (.head _)) (j_icmp_eq dX4_follow_22 rfl) nq_ne (.head _) (.head _)) dX4_follow_25 dX4_follow_26 rfl dX4_follow_29 (.head _) (.head _)) rfl ci_4 (by decide) kf_X4_25 rfl (fun _ h => qfit_bool h) dX4_follow_30 (.head _) rfl)
 (okSeq (p1 := 49) (Γ1 := [(0, 2), (1, 2), (2, 0), (3, 0)]) (okPut (p1 := 34) (p2 := 46) (k := 1) (ok_aload_n dX4_follow_33 (.head _) rfl (.head _)) (okIfE (pt := 41) (pf := 45) (p1 := 42) (pe := 46) (okCEf (p1 := 38) (okI (τ := 3) (okF (p1 := 35) (k := 0) (ok_aload_n dX4_follow_34 (.head _) rfl (.head _)) ci_4 (by decide) kf_X4_25 dX4_follow_35 (.head _) rfl rfl) t_3) (j_if_eq dX4_follow_38 rfl) (.head _) (.head _)) (ok_iload_n dX4_follow_41 (.head _) rfl (.tail _ (.tail _ (.tail _ (.head _)))) t_0) dX4_follow_42 rfl (.head _) (ok_iconst dX4_follow_45 (.head _) (irn (by decide) (by decide)))) rfl ci_4 (by decide) kf_X4_29 rfl (fun z _ => qfit_int z) dX4_follow_46 (.head _) rfl)
 (okRetV rfl dX4_follow_49)))) (fun t ht => okSkip ht))
 (okSeq (p1 := 58) (Γ1 := [(0, 2), (1, 2), (2, 0), (3, 0), (4, 0)]) (ok_istore (Γ' := [(0, 2), (1, 2), (2, 0), (3, 0), (4, 0)]) (p1 := 56) (τ := 0) (okCallV (p1 := 53) (okCons (p1 := 51) (ok_aload_n dX4_follow_50 (.head _) rfl (.head _)) (okCons (p1 := 52) (ok_iconst dX4_follow_51 (.head _) (irn (by decide) (by decide))) (okCons (p1 := 53) (ok_iload_n dX4_follow_52 (.head _) rfl (.tail _ (.tail _ (.head _))) t_0) okNil))) MX4_tellAhead cf_X4_tellAhead ci_4 rfl kc_X4_tellAhead km_X4_46 ki_X4_tellAhead kv_X4_tellAhead kn_X4 (Nat.le_of_ble_eq_true rfl) (Nat.le_of_ble_eq_true rfl) dX4_follow_53 (.head _) (by decide) rfl (by decide)) t_0 dX4_follow_56 (by decide) (.head _) (by decide))
 (okSeq (p1 := 90) (Γ1 := [(0, 2), (1, 2), (2, 0), (3, 0), (4, 0)]) (okIf (Γ' := [(0, 2), (1, 2), (2, 0), (3, 0), (4, 0)]) (T := [64]) (F := [90]) (okCBf (p1 := 59) (p2 := 61) (τa := 0) (τb := 0) (ok_iload_n dX4_follow_58 (.head _) rfl (.tail _ (.tail _ (.tail _ (.head _)))) t_0) (ok_ldc kk_X4_45 (by decide) dX4_follow_59 (.head _)) (j_icmp_ne dX4_follow_61 rfl) nq_eq (.head _) (.head _)) (one (okSeq (p1 := 71) (Γ1 := [(0, 2), (1, 2), (2, 0), (3, 0), (4, 0)]) (okDoV (p1 := 68) (okCons (p1 := 65) (ok_aload_n dX4_follow_64 (.head _) rfl (.head _)) (okCons (p1 := 67) (ok_iload dX4_follow_65 (.head _) (.tail _ (.tail _ (.tail _ (.tail _ (.head _))))) t_0) (okCons (p1 := 68) (ok_zconst dX4_follow_67 (.head _) ⟨by decide, by decide⟩) okNil))) MX4_keep cf_X4_keep ci_4 rfl kc_X4_keep km_X4_50 ki_X4_keep kv_X4_keep kn_X4 (Nat.le_of_ble_eq_true rfl) (Nat.le_of_ble_eq_true rfl) dX4_follow_68 (.head _) rfl)
 (okSeq (p1 := 89) (Γ1 := [(0, 2), (1, 2), (2, 0), (3, 0), (4, 0)]) (okPut (p1 := 72) (p2 := 86) (k := 1) (ok_aload_n dX4_follow_71 (.head _) rfl (.head _)) (okCallSN (p1 := 83) (okCons (p1 := 83) (okE2 (p1 := 77) (p2 := 82) (τa := 1) (τb := 1) (okL (p1 := 76) (okF (p1 := 73) (k := 1) (ok_aload_n dX4_follow_72 (.head _) rfl (.head _)) ci_4 (by decide) kf_X4_29 dX4_follow_73 (.head _) rfl rfl) dX4_follow_76 (.head _)) (okL (p1 := 81) (okF (p1 := 78) (k := 2) (ok_aload_n dX4_follow_77 (.head _) rfl (.head _)) ci_4 (by decide) kf_X4_33 dX4_follow_78 (.head _) rfl rfl) dX4_follow_81 (.head _)) (s_ladd dX4_follow_82 (.head _))) okNil) MX11_held cf_X11_held kc_X11_held nx_X4_54 ks_X11_held kn_X11 (Nat.le_of_ble_eq_true rfl) (Nat.le_of_ble_eq_true rfl) dX4_follow_83 (.head _) (by decide) rfl (by decide)) rfl ci_4 (by decide) kf_X4_29 rfl (fun z _ => qfit_int z) dX4_follow_86 (.head _) rfl)
 (okRetV rfl dX4_follow_89)))) (fun t ht => okSkip ht))
 (okSeq (p1 := 101) (Γ1 := [(0, 2), (1, 2), (2, 0), (3, 0), (4, 0), (5, 1)]) (ok_lstore (Γ' := [(0, 2), (1, 2), (2, 0), (3, 0), (4, 0), (5, 1)]) (p1 := 99) (okAbsL (p1 := 96) (okE2 (p1 := 92) (p2 := 95) (τa := 1) (τb := 1) (okL (p1 := 91) (ok_iload_n dX4_follow_90 (.head _) rfl (.tail _ (.tail _ (.tail _ (.head _)))) t_0) dX4_follow_91 (.head _)) (okL (p1 := 94) (ok_iload dX4_follow_92 (.head _) (.tail _ (.tail _ (.tail _ (.tail _ (.head _))))) t_0) dX4_follow_94 (.head _)) (s_lsub dX4_follow_95 (.head _))) (by decide) km_X4_58 (Nat.le_of_ble_eq_true rfl) (Nat.le_of_ble_eq_true rfl) dX4_follow_96 (.head _)) dX4_follow_99 (by decide) (.head _) (by decide))
 (okSeq (p1 := 140) (Γ1 := [(0, 2), (1, 2), (2, 0), (3, 0), (4, 0), (5, 1)]) (okDoV (p1 := 137) (okCons (p1 := 102) (ok_aload_n dX4_follow_101 (.head _) rfl (.head _)) (okCons (p1 := 104) (ok_iload dX4_follow_102 (.head _) (.tail _ (.tail _ (.tail _ (.tail _ (.head _))))) t_0) (okCons (p1 := 137) (okBv (pt := 132) (pf := 136) (pe := 137) (okAnd (p1 := 113) (okCZf (p1 := 110) (τa := 0) (ok_iaload (.inl rfl) (p1 := 108) (p2 := 109) (okF (p1 := 105) (k := 4) (ok_aload_n dX4_follow_104 (.head _) rfl (.head _)) ci_4 (by decide) kf_X4_15 dX4_follow_105 (.head _) rfl rfl) (ok_iload_n dX4_follow_108 (.head _) rfl (.tail _ (.tail _ (.head _))) t_0) dX4_follow_109 (.head _)) (j_if_le dX4_follow_110 rfl) nq_gt (.head _) (.head _)) (okCBf (p1 := 115) (p2 := 128) (τa := 1) (τb := 1) (ok_lload dX4_follow_113 (.head _) (.tail _ (.tail _ (.tail _ (.tail _ (.tail _ (.head _))))))) (okE2 (p1 := 120) (p2 := 127) (τa := 1) (τb := 1) (okL (p1 := 119) (okF (p1 := 116) (k := 10) (ok_aload_n dX4_follow_115 (.head _) rfl (.tail _ (.head _))) ci_2 (by decide) kf_X4_64 dX4_follow_116 (.head _) rfl rfl) dX4_follow_119 (.head _)) (okL (p1 := 126) (ok_iaload (.inl rfl) (p1 := 124) (p2 := 125) (okF (p1 := 121) (k := 4) (ok_aload_n dX4_follow_120 (.head _) rfl (.head _)) ci_4 (by decide) kf_X4_15 dX4_follow_121 (.head _) rfl rfl) (ok_iload_n dX4_follow_124 (.head _) rfl (.tail _ (.tail _ (.head _))) t_0) dX4_follow_125 (.head _)) dX4_follow_126 (.head _)) (s_lmul dX4_follow_127 (.head _))) (j_lcmp_le dX4_follow_128 dX4_follow_129 rfl) nq_gt (.head _) (.head _))) dX4_follow_132 dX4_follow_133 rfl dX4_follow_136 (.head _) (.head _)) okNil))) MX4_keep cf_X4_keep ci_4 rfl kc_X4_keep km_X4_50 ki_X4_keep kv_X4_keep kn_X4 (Nat.le_of_ble_eq_true rfl) (Nat.le_of_ble_eq_true rfl) dX4_follow_137 (.head _) rfl)
 (okSeq (p1 := 170) (Γ1 := [(0, 2), (1, 2), (2, 0), (3, 0), (4, 0), (5, 1), (7, 0)]) (ok_istore (Γ' := [(0, 2), (1, 2), (2, 0), (3, 0), (4, 0), (5, 1), (7, 0)]) (p1 := 168) (τ := 0) (okCallS (p1 := 165) (okCons (p1 := 144) (okF (p1 := 141) (k := 7) (ok_aload_n dX4_follow_140 (.head _) rfl (.tail _ (.head _))) ci_2 (by decide) kf_X4_69 dX4_follow_141 (.head _) rfl rfl) (okCons (p1 := 154) (okE2 (p1 := 146) (p2 := 153) (τa := 1) (τb := 1) (okL (p1 := 145) (ok_iload_n dX4_follow_144 (.head _) rfl (.tail _ (.tail _ (.tail _ (.head _)))) t_0) dX4_follow_145 (.head _)) (okL (p1 := 152) (ok_iaload (.inl rfl) (p1 := 150) (p2 := 151) (okF (p1 := 147) (k := 3) (ok_aload_n dX4_follow_146 (.head _) rfl (.head _)) ci_4 (by decide) kf_X4_9 dX4_follow_147 (.head _) rfl rfl) (ok_iload_n dX4_follow_150 (.head _) rfl (.tail _ (.tail _ (.head _))) t_0) dX4_follow_151 (.head _)) dX4_follow_152 (.head _)) (s_lsub dX4_follow_153 (.head _))) (okCons (p1 := 165) (okE2 (p1 := 159) (p2 := 164) (τa := 1) (τb := 1) (okL (p1 := 158) (okF (p1 := 155) (k := 1) (ok_aload_n dX4_follow_154 (.head _) rfl (.head _)) ci_4 (by decide) kf_X4_29 dX4_follow_155 (.head _) rfl rfl) dX4_follow_158 (.head _)) (okL (p1 := 163) (okF (p1 := 160) (k := 2) (ok_aload_n dX4_follow_159 (.head _) rfl (.head _)) ci_4 (by decide) kf_X4_33 dX4_follow_160 (.head _) rfl rfl) dX4_follow_163 (.head _)) (s_ladd dX4_follow_164 (.head _))) okNil))) MX4_mixed cf_X4_mixed rfl kc_X4_mixed km_X4_72 ks_X4_mixed kn_X4 (Nat.le_of_ble_eq_true rfl) (Nat.le_of_ble_eq_true rfl) dX4_follow_165 (.head _) (by decide) rfl (by decide)) t_0 dX4_follow_168 (by decide) (.head _) (by decide))
 (okSeq (p1 := 195) (Γ1 := [(0, 2), (1, 2), (2, 0), (3, 0), (4, 0), (5, 1), (7, 0)]) (okPut (p1 := 171) (p2 := 192) (k := 2) (ok_aload_n dX4_follow_170 (.head _) rfl (.head _)) (okCallS (p1 := 189) (okCons (p1 := 175) (okF (p1 := 172) (k := 8) (ok_aload_n dX4_follow_171 (.head _) rfl (.tail _ (.head _))) ci_2 (by decide) kf_X4_76 dX4_follow_172 (.head _) rfl rfl) (okCons (p1 := 184) (okE2 (p1 := 178) (p2 := 183) (τa := 1) (τb := 1) (okL (p1 := 177) (ok_iload dX4_follow_175 (.head _) (.tail _ (.tail _ (.tail _ (.tail _ (.tail _ (.tail _ (.head _))))))) t_0) dX4_follow_177 (.head _)) (okL (p1 := 182) (okF (p1 := 179) (k := 1) (ok_aload_n dX4_follow_178 (.head _) rfl (.head _)) ci_4 (by decide) kf_X4_29 dX4_follow_179 (.head _) rfl rfl) dX4_follow_182 (.head _)) (s_lsub dX4_follow_183 (.head _))) (okCons (p1 := 189) (okL (p1 := 188) (okF (p1 := 185) (k := 2) (ok_aload_n dX4_follow_184 (.head _) rfl (.head _)) ci_4 (by decide) kf_X4_33 dX4_follow_185 (.head _) rfl rfl) dX4_follow_188 (.head _)) okNil))) MX4_mixed cf_X4_mixed rfl kc_X4_mixed km_X4_72 ks_X4_mixed kn_X4 (Nat.le_of_ble_eq_true rfl) (Nat.le_of_ble_eq_true rfl) dX4_follow_189 (.head _) (by decide) rfl (by decide)) rfl ci_4 (by decide) kf_X4_33 rfl (fun z _ => qfit_int z) dX4_follow_192 (.head _) rfl)
 (okSeq (p1 := 201) (Γ1 := [(0, 2), (1, 2), (2, 0), (3, 0), (4, 0), (5, 1), (7, 0)]) (okPut (p1 := 196) (p2 := 198) (k := 1) (ok_aload_n dX4_follow_195 (.head _) rfl (.head _)) (ok_iload dX4_follow_196 (.head _) (.tail _ (.tail _ (.tail _ (.tail _ (.tail _ (.tail _ (.head _))))))) t_0) rfl ci_4 (by decide) kf_X4_29 rfl (fun z _ => qfit_int z) dX4_follow_198 (.head _) rfl)
 (okSeq (p1 := 227) (Γ1 := [(0, 2), (1, 2), (2, 0), (3, 0), (4, 0), (5, 1), (7, 0)]) (okArr (p1 := 205) (p2 := 206) (p3 := 226) (by decide) (okF (p1 := 202) (k := 3) (ok_aload_n dX4_follow_201 (.head _) rfl (.head _)) ci_4 (by decide) kf_X4_9 dX4_follow_202 (.head _) rfl rfl) (ok_iload_n dX4_follow_205 (.head _) rfl (.tail _ (.tail _ (.head _))) t_0) (okCallS (p1 := 223) (okCons (p1 := 210) (okF (p1 := 207) (k := 9) (ok_aload_n dX4_follow_206 (.head _) rfl (.tail _ (.head _))) ci_2 (by decide) kf_X4_79 dX4_follow_207 (.head _) rfl rfl) (okCons (p1 := 216) (okE2 (p1 := 212) (p2 := 215) (τa := 1) (τb := 1) (okL (p1 := 211) (ok_iload_n dX4_follow_210 (.head _) rfl (.tail _ (.tail _ (.tail _ (.head _)))) t_0) dX4_follow_211 (.head _)) (okL (p1 := 214) (ok_iload dX4_follow_212 (.head _) (.tail _ (.tail _ (.tail _ (.tail _ (.tail _ (.tail _ (.head _))))))) t_0) dX4_follow_214 (.head _)) (s_lsub dX4_follow_215 (.head _))) (okCons (p1 := 223) (okL (p1 := 222) (ok_iaload (.inl rfl) (p1 := 220) (p2 := 221) (okF (p1 := 217) (k := 3) (ok_aload_n dX4_follow_216 (.head _) rfl (.head _)) ci_4 (by decide) kf_X4_9 dX4_follow_217 (.head _) rfl rfl) (ok_iload_n dX4_follow_220 (.head _) rfl (.tail _ (.tail _ (.head _))) t_0) dX4_follow_221 (.head _)) dX4_follow_222 (.head _)) okNil))) MX4_mixed cf_X4_mixed rfl kc_X4_mixed km_X4_72 ks_X4_mixed kn_X4 (Nat.le_of_ble_eq_true rfl) (Nat.le_of_ble_eq_true rfl) dX4_follow_223 (.head _) (by decide) rfl (by decide)) dX4_follow_226 (.head _))
 (okSeq (p1 := 249) (Γ1 := [(0, 2), (1, 2), (2, 0), (3, 0), (4, 0), (5, 1), (7, 0)]) (okArr (p1 := 231) (p2 := 232) (p3 := 248) (by decide) (okF (p1 := 228) (k := 4) (ok_aload_n dX4_follow_227 (.head _) rfl (.head _)) ci_4 (by decide) kf_X4_15 dX4_follow_228 (.head _) rfl rfl) (ok_iload_n dX4_follow_231 (.head _) rfl (.tail _ (.tail _ (.head _))) t_0) (okCallS (p1 := 245) (okCons (p1 := 236) (okF (p1 := 233) (k := 9) (ok_aload_n dX4_follow_232 (.head _) rfl (.tail _ (.head _))) ci_2 (by decide) kf_X4_79 dX4_follow_233 (.head _) rfl rfl) (okCons (p1 := 238) (ok_lload dX4_follow_236 (.head _) (.tail _ (.tail _ (.tail _ (.tail _ (.tail _ (.head _))))))) (okCons (p1 := 245) (okL (p1 := 244) (ok_iaload (.inl rfl) (p1 := 242) (p2 := 243) (okF (p1 := 239) (k := 4) (ok_aload_n dX4_follow_238 (.head _) rfl (.head _)) ci_4 (by decide) kf_X4_15 dX4_follow_239 (.head _) rfl rfl) (ok_iload_n dX4_follow_242 (.head _) rfl (.tail _ (.tail _ (.head _))) t_0) dX4_follow_243 (.head _)) dX4_follow_244 (.head _)) okNil))) MX4_mixed cf_X4_mixed rfl kc_X4_mixed km_X4_72 ks_X4_mixed kn_X4 (Nat.le_of_ble_eq_true rfl) (Nat.le_of_ble_eq_true rfl) dX4_follow_245 (.head _) (by decide) rfl (by decide)) dX4_follow_248 (.head _))
 (okRetV rfl dX4_follow_249))))))))))))
def mX4_follow : QM := qM [2, 2, 0, 0] sX4_follow
theorem MX4_follow : MetY YX4_follow yX4_follow none [2, 2, 0, 0] mX4_follow := metY_of rfl (by decide +kernel) (.inr (.inr (.inr (.inl ⟨rfl, rfl⟩)))) (by decide) oX4_follow

abbrev YX9_mean : YT := (RX9, cX9_mean, 1, 0, 0, 0)
theorem cf_X9_mean : CF yX9_mean 0 := ⟨by decide +kernel, by decide +kernel, by decide +kernel⟩
def sX9_mean : QT :=
 (sRet (eIf (cB qeq (eF 9 1 (eV 0)) (eI 0)) (eI (-2147483648)) (e1 w32 (eD lD (eF 9 0 (eV 0)) (eF 9 1 (eV 0))))))
set_option maxRecDepth 100000 in
theorem oX9_mean : OkS YX9_mean [(0, 2)] [(0, 2)] 0 [] [] [] [] [] sX9_mean := by
  unfold sX9_mean
  exact (okRet (p1 := 23) (τ := 0) (okIfE (pt := 7) (pf := 12) (p1 := 9) (pe := 23) (okCZf (p1 := 4) (τa := 0) (okF (p1 := 1) (k := 1) (ok_aload_n dX9_mean_0 (.head _) rfl (.head _)) ci_9 (by decide) kf_X9_26 dX9_mean_1 (.head _) rfl rfl) (j_if_ne dX9_mean_4 rfl) nq_eq (.head _) (.head _)) (ok_ldc kk_X9_9 (by decide) dX9_mean_7 (.head _)) dX9_mean_9 rfl (.head _) (okE1 (p1 := 22) (τa := 1) (okED (p1 := 16) (p2 := 21) (τa := 1) (τb := 1) (okF (p1 := 13) (k := 0) (ok_aload_n dX9_mean_12 (.head _) rfl (.head _)) ci_9 (by decide) kf_X9_22 dX9_mean_13 (.head _) rfl rfl) (okL (p1 := 20) (okF (p1 := 17) (k := 1) (ok_aload_n dX9_mean_16 (.head _) rfl (.head _)) ci_9 (by decide) kf_X9_26 dX9_mean_17 (.head _) rfl rfl) dX9_mean_20 (.head _)) (s_ldiv dX9_mean_21 (.head _))) (s_l2i dX9_mean_22 (.head _)))) rfl (by decide) dX9_mean_23)
def mX9_mean : QM := qM [2] sX9_mean
theorem MX9_mean : MetY YX9_mean yX9_mean (some .int) [2] mX9_mean := metY_of rfl (by decide +kernel) (.inl ⟨rfl, rfl⟩) (by decide) oX9_mean

abbrev YX9_by : YT := (RX9, cX9_by, 2, 1, 20, 0)
theorem cf_X9_by : CF yX9_by 1 := ⟨by decide +kernel, by decide +kernel, by decide +kernel⟩
def sX9_by : QT :=
 (sSw (eV 1) [([0], (sRet (eCallV 9 mX9_mean [(eV 0)]))), ([1], (sRet (eF 9 3 (eV 0)))), ([2], (sRet (eF 9 4 (eV 0))))] (sRet (eF 9 5 (eV 0))))
set_option maxRecDepth 100000 in
theorem oX9_by : OkS YX9_by [(0, 2), (1, 0)] [(0, 2), (1, 0)] 0 [] [] [] [] [] sX9_by := by
  unfold sX9_by
  exact (okSw (Γ' := [(0, 2), (1, 0)]) (p1 := 1) (df := 43) (tb := [(0, 28), (1, 33), (2, 38)]) [([0], 28, (sRet (eCallV 9 mX9_mean [(eV 0)]))), ([1], 33, (sRet (eF 9 3 (eV 0)))), ([2], 38, (sRet (eF 9 4 (eV 0))))] rfl (ok_iload_n dX9_by_0 (.head _) rfl (.tail _ (.head _)) t_0) (sw_table (tb := [(0, 28), (1, 33), (2, 38)]) (df := 43) (K := 3) dX9_by_1 rfl (by decide +kernel) (by decide +kernel) (by decide +kernel))
 (okCsCons (okRet (p1 := 32) (τ := 0) (okCallV (p1 := 29) (okCons (p1 := 29) (ok_aload_n dX9_by_28 (.head _) rfl (.head _)) okNil) MX9_mean cf_X9_mean ci_9 rfl kc_X9_mean km_X9_41 ki_X9_mean kv_X9_mean kn_X9 (Nat.le_of_ble_eq_true rfl) (Nat.le_of_ble_eq_true rfl) dX9_by_29 (.head _) (by decide) rfl (by decide)) rfl (by decide) dX9_by_32)
 (okCsCons (okRet (p1 := 37) (τ := 0) (okF (p1 := 34) (k := 3) (ok_aload_n dX9_by_33 (.head _) rfl (.head _)) ci_9 (by decide) kf_X9_10 dX9_by_34 (.head _) rfl rfl) rfl (by decide) dX9_by_37)
 (okCsCons (okRet (p1 := 42) (τ := 0) (okF (p1 := 39) (k := 4) (ok_aload_n dX9_by_38 (.head _) rfl (.head _)) ci_9 (by decide) kf_X9_16 dX9_by_39 (.head _) rfl rfl) rfl (by decide) dX9_by_42)
 okCsNil))) (okRet (p1 := 47) (τ := 0) (okF (p1 := 44) (k := 5) (ok_aload_n dX9_by_43 (.head _) rfl (.head _)) ci_9 (by decide) kf_X9_19 dX9_by_44 (.head _) rfl rfl) rfl (by decide) dX9_by_47) (by decide +kernel) (by decide +kernel))
def mX9_by : QM := qM [2, 0] sX9_by
theorem MX9_by : MetY YX9_by yX9_by (some .int) [2, 0] mX9_by := metY_of rfl (by decide +kernel) (.inl ⟨rfl, rfl⟩) (by decide) oX9_by

abbrev YX7_endRow : YT := (RX7, cX7_endRow, 5, 2, 41, 9)
theorem cf_X7_endRow : CF yX7_endRow 2 := ⟨by decide +kernel, by decide +kernel, by decide +kernel⟩
def cX7_endRow_1 : QC :=
 (cB qlt (eV 3) (eI 4))
def bX7_endRow_1 : QT :=
 (sSeq (sSet 4 (eB (cB qle (e2 iM (eI 10) (e2 iS (eF 0 1 (eV 1)) (eF 9 2 (eA 39 (eF 7 1 (eV 0)) (eV 3))))) (e2 iM (eF 0 3 (eV 1)) (eF 0 1 (eV 1))))))
 (sArr 20 (eF 7 0 (eV 0)) (e2 iA (e2 iM (eD iR (eV 2) (eI 30)) (eI 4)) (eV 3)) (eIf (cE (eV 4)) (eCallV 9 mX9_by [(eA 39 (eF 7 1 (eV 0)) (eV 3)), (eF 0 0 (eV 1))]) (eI (-2147483648)))))
def uX7_endRow_1 : QT :=
 (sInc 3 1)
set_option maxRecDepth 100000 in
theorem obX7_endRow_1 : OkS YX7_endRow [(0, 2), (1, 2), (2, 0), (3, 0)] [(0, 2), (1, 2), (2, 0), (3, 0)] 12 [84] [(0, 2), (1, 2), (2, 0), (3, 0)] [90] [(0, 2), (1, 2), (2, 0), (3, 0)] [84] bX7_endRow_1 := by
  unfold bX7_endRow_1
  exact (okWeak (Γ1 := [(0, 2), (1, 2), (2, 0), (3, 0), (4, 3)]) (okSeq (p1 := 48) (Γ1 := [(0, 2), (1, 2), (2, 0), (3, 0), (4, 3)]) (ok_istore (Γ' := [(0, 2), (1, 2), (2, 0), (3, 0), (4, 3)]) (p1 := 46) (τ := 3) (okBv (pt := 41) (pf := 45) (pe := 46) (okCBf (p1 := 29) (p2 := 38) (τa := 0) (τb := 0) (okE2 (p1 := 14) (p2 := 28) (τa := 0) (τb := 0) (ok_bipush dX7_endRow_12 (.head _) (irn4 (by decide) (by decide))) (okE2 (p1 := 18) (p2 := 27) (τa := 0) (τb := 0) (okF (p1 := 15) (k := 1) (ok_aload_n dX7_endRow_14 (.head _) rfl (.tail _ (.head _))) ci_0 (by decide) kf_X7_36 dX7_endRow_15 (.head _) rfl rfl) (okF (p1 := 24) (k := 2) (ok_aaload (C := RX9) (by decide) rfl rfl (p1 := 22) (p2 := 23) (okF (p1 := 19) (k := 1) (ok_aload_n dX7_endRow_18 (.head _) rfl (.head _)) ci_7 (by decide) kf_X7_17 dX7_endRow_19 (.head _) rfl rfl) (ok_iload_n dX7_endRow_22 (.head _) rfl (.tail _ (.tail _ (.tail _ (.head _)))) t_0) dX7_endRow_23 (.head _)) ci_9 (by decide) kf_X7_42 dX7_endRow_24 (.head _) rfl rfl) (s_isub dX7_endRow_27 (.head _))) (s_imul dX7_endRow_28 (.head _))) (okE2 (p1 := 33) (p2 := 37) (τa := 0) (τb := 0) (okF (p1 := 30) (k := 3) (ok_aload_n dX7_endRow_29 (.head _) rfl (.tail _ (.head _))) ci_0 (by decide) kf_X7_45 dX7_endRow_30 (.head _) rfl rfl) (okF (p1 := 34) (k := 1) (ok_aload_n dX7_endRow_33 (.head _) rfl (.tail _ (.head _))) ci_0 (by decide) kf_X7_36 dX7_endRow_34 (.head _) rfl rfl) (s_imul dX7_endRow_37 (.head _))) (j_icmp_gt dX7_endRow_38 rfl) nq_le (.head _) (.head _)) dX7_endRow_41 dX7_endRow_42 rfl dX7_endRow_45 (.head _) (.head _)) t_3 dX7_endRow_46 (by decide) (.head _) (by decide))
 (okArr (p1 := 52) (p2 := 60) (p3 := 83) (by decide) (okF (p1 := 49) (k := 0) (ok_aload_n dX7_endRow_48 (.head _) rfl (.head _)) ci_7 (by decide) kf_X7_11 dX7_endRow_49 (.head _) rfl rfl) (okE2 (p1 := 58) (p2 := 59) (τa := 0) (τb := 0) (okE2 (p1 := 56) (p2 := 57) (τa := 0) (τb := 0) (okED (p1 := 53) (p2 := 55) (τa := 0) (τb := 0) (ok_iload_n dX7_endRow_52 (.head _) rfl (.tail _ (.tail _ (.head _))) t_0) (ok_bipush dX7_endRow_53 (.head _) (irn4 (by decide) (by decide))) (s_irem dX7_endRow_55 (.head _))) (ok_iconst dX7_endRow_56 (.head _) (irn (by decide) (by decide))) (s_imul dX7_endRow_57 (.head _))) (ok_iload_n dX7_endRow_58 (.head _) rfl (.tail _ (.tail _ (.tail _ (.head _)))) t_0) (s_iadd dX7_endRow_59 (.head _))) (okIfE (pt := 65) (pf := 81) (p1 := 78) (pe := 83) (okCEf (p1 := 62) (okI (τ := 3) (ok_iload dX7_endRow_60 (.head _) (.tail _ (.tail _ (.tail _ (.tail _ (.head _))))) t_3) t_3) (j_if_eq dX7_endRow_62 rfl) (.head _) (.head _)) (okCallV (p1 := 75) (okCons (p1 := 71) (ok_aaload (C := RX9) (by decide) rfl rfl (p1 := 69) (p2 := 70) (okF (p1 := 66) (k := 1) (ok_aload_n dX7_endRow_65 (.head _) rfl (.head _)) ci_7 (by decide) kf_X7_17 dX7_endRow_66 (.head _) rfl rfl) (ok_iload_n dX7_endRow_69 (.head _) rfl (.tail _ (.tail _ (.tail _ (.head _)))) t_0) dX7_endRow_70 (.head _)) (okCons (p1 := 75) (okF (p1 := 72) (k := 0) (ok_aload_n dX7_endRow_71 (.head _) rfl (.tail _ (.head _))) ci_0 (by decide) kf_X7_48 dX7_endRow_72 (.head _) rfl rfl) okNil)) MX9_by cf_X9_by ci_9 rfl kc_X9_by km_X7_51 ki_X9_by kv_X9_by kn_X9 (Nat.le_of_ble_eq_true rfl) (Nat.le_of_ble_eq_true rfl) dX7_endRow_75 (.head _) (by decide) rfl (by decide)) dX7_endRow_78 rfl (.head _) (ok_ldc kk_X7_35 (by decide) dX7_endRow_81 (.head _))) dX7_endRow_83 (.head _))) (by decide))
set_option maxRecDepth 100000 in
theorem ocX7_endRow_1 : OkC YX7_endRow [(0, 2), (1, 2), (2, 0), (3, 0)] 0 7 [12] [90] cX7_endRow_1 := by
  unfold cX7_endRow_1
  exact (okCBf (p1 := 8) (p2 := 9) (τa := 0) (τb := 0) (ok_iload_n dX7_endRow_7 (.head _) rfl (.tail _ (.tail _ (.tail _ (.head _)))) t_0) (ok_iconst dX7_endRow_8 (.head _) (irn (by decide) (by decide))) (j_icmp_ge dX7_endRow_9 rfl) nq_lt (.head _) (.head _))
set_option maxRecDepth 100000 in
theorem ouX7_endRow_1 : ∀ t ∈ ([84] : List Nat), OkS YX7_endRow [(0, 2), (1, 2), (2, 0), (3, 0)] [(0, 2), (1, 2), (2, 0), (3, 0)] t [7] [] [] [] [] uX7_endRow_1 := by
  unfold uX7_endRow_1
  exact (one (okEnd (p1 := 87) (tg := 7) (okInc (.tail _ (.tail _ (.tail _ (.head _)))) dX7_endRow_84 (by decide) (.head _) (by decide)) dX7_endRow_87 rfl (.head _)))
def sX7_endRow : QT :=
 (sSeq (sIf (cB qlt (eV 2) (eI 0)) sRetV sSkip)
 (sSeq (sSeq (sSet 3 (eI 0))
 (sWhile cX7_endRow_1 bX7_endRow_1 uX7_endRow_1))
 (sSeq (sDo (eCallV 7 mX7_clearParts [(eV 0)]))
 sRetV)))
set_option maxRecDepth 100000 in
theorem oX7_endRow : OkS YX7_endRow [(0, 2), (1, 2), (2, 0)] [(0, 2), (1, 2), (2, 0)] 0 [] [] [] [] [] sX7_endRow := by
  unfold sX7_endRow
  exact (okSeq (p1 := 5) (Γ1 := [(0, 2), (1, 2), (2, 0)]) (okIf (Γ' := [(0, 2), (1, 2), (2, 0)]) (T := [4]) (F := [5]) (okCZf (p1 := 1) (τa := 0) (ok_iload_n dX7_endRow_0 (.head _) rfl (.tail _ (.tail _ (.head _))) t_0) (j_if_ge dX7_endRow_1 rfl) nq_lt (.head _) (.head _)) (one (okRetV rfl dX7_endRow_4)) (fun t ht => okSkip ht))
 (okSeq (p1 := 90) (Γ1 := [(0, 2), (1, 2), (2, 0)]) (okWeak (Γ1 := [(0, 2), (1, 2), (2, 0), (3, 0)]) (okSeq (p1 := 7) (Γ1 := [(0, 2), (1, 2), (2, 0), (3, 0)]) (ok_istore_n (Γ' := [(0, 2), (1, 2), (2, 0), (3, 0)]) (p1 := 6) (τ := 0) (ok_iconst dX7_endRow_5 (.head _) (irn (by decide) (by decide))) t_0 dX7_endRow_6 rfl (by decide) (.head _) (by decide))
 (okWhile (T := [12]) (F := [90]) (Eb := [84]) ocX7_endRow_1 (fun _ h => h) (one obX7_endRow_1) ouX7_endRow_1)) (by decide))
 (okSeq (p1 := 94) (Γ1 := [(0, 2), (1, 2), (2, 0)]) (okDoV (p1 := 91) (okCons (p1 := 91) (ok_aload_n dX7_endRow_90 (.head _) rfl (.head _)) okNil) MX7_clearParts cf_X7_clearParts ci_7 rfl kc_X7_clearParts km_X7_55 ki_X7_clearParts kv_X7_clearParts kn_X7 (Nat.le_of_ble_eq_true rfl) (Nat.le_of_ble_eq_true rfl) dX7_endRow_91 (.head _) rfl)
 (okRetV rfl dX7_endRow_94))))
def mX7_endRow : QM := qM [2, 2, 0] sX7_endRow
theorem MX7_endRow : MetY YX7_endRow yX7_endRow none [2, 2, 0] mX7_endRow := metY_of rfl (by decide +kernel) (.inr (.inr (.inr (.inl ⟨rfl, rfl⟩)))) (by decide) oX7_endRow

abbrev YX9_add : YT := (RX9, cX9_add, 3, 1, 21, 9)
theorem cf_X9_add : CF yX9_add 2 := ⟨by decide +kernel, by decide +kernel, by decide +kernel⟩
def sX9_add : QT :=
 (sSeq (sIf (cB qeq (eV 1) (eI (-2147483648))) sRetV sSkip)
 (sSeq (sPut 9 3 (eV 0) (eIf (cB qeq (eF 9 2 (eV 0)) (eI 0)) (eV 1) (e2 iMax (eF 9 3 (eV 0)) (eV 1))))
 (sSeq (sPut 9 4 (eV 0) (eIf (cB qeq (eF 9 2 (eV 0)) (eI 0)) (eV 1) (e2 iMin (eF 9 4 (eV 0)) (eV 1))))
 (sSeq (sPut 9 5 (eV 0) (eV 1))
 (sSeq (sPutC 9 0 (eV 0) lA (e2 lM (eV 1) (eV 2)))
 (sSeq (sPutC 9 1 (eV 0) iA (eV 2))
 (sSeq (sPutC 9 2 (eV 0) iA (eI 1))
 sRetV)))))))
set_option maxRecDepth 100000 in
theorem oX9_add : OkS YX9_add [(0, 2), (1, 0), (2, 0)] [(0, 2), (1, 0), (2, 0)] 0 [] [] [] [] [] sX9_add := by
  unfold sX9_add
  exact (okSeq (p1 := 7) (Γ1 := [(0, 2), (1, 0), (2, 0)]) (okIf (Γ' := [(0, 2), (1, 0), (2, 0)]) (T := [6]) (F := [7]) (okCBf (p1 := 1) (p2 := 3) (τa := 0) (τb := 0) (ok_iload_n dX9_add_0 (.head _) rfl (.tail _ (.head _)) t_0) (ok_ldc kk_X9_9 (by decide) dX9_add_1 (.head _)) (j_icmp_ne dX9_add_3 rfl) nq_eq (.head _) (.head _)) (one (okRetV rfl dX9_add_6)) (fun t ht => okSkip ht))
 (okSeq (p1 := 30) (Γ1 := [(0, 2), (1, 0), (2, 0)]) (okPut (p1 := 8) (p2 := 27) (k := 3) (ok_aload_n dX9_add_7 (.head _) rfl (.head _)) (okIfE (pt := 15) (pf := 19) (p1 := 16) (pe := 27) (okCZf (p1 := 12) (τa := 0) (okF (p1 := 9) (k := 2) (ok_aload_n dX9_add_8 (.head _) rfl (.head _)) ci_9 (by decide) kf_X9_29 dX9_add_9 (.head _) rfl rfl) (j_if_ne dX9_add_12 rfl) nq_eq (.head _) (.head _)) (ok_iload_n dX9_add_15 (.head _) rfl (.tail _ (.head _)) t_0) dX9_add_16 rfl (.head _) (okMax (p1 := 23) (p2 := 24) (okF (p1 := 20) (k := 3) (ok_aload_n dX9_add_19 (.head _) rfl (.head _)) ci_9 (by decide) kf_X9_10 dX9_add_20 (.head _) rfl rfl) (ok_iload_n dX9_add_23 (.head _) rfl (.tail _ (.head _)) t_0) (by decide) km_X9_32 (Nat.le_of_ble_eq_true rfl) (Nat.le_of_ble_eq_true rfl) dX9_add_24 (.head _))) rfl ci_9 (by decide) kf_X9_10 rfl (fun z _ => qfit_int z) dX9_add_27 (.head _) rfl)
 (okSeq (p1 := 53) (Γ1 := [(0, 2), (1, 0), (2, 0)]) (okPut (p1 := 31) (p2 := 50) (k := 4) (ok_aload_n dX9_add_30 (.head _) rfl (.head _)) (okIfE (pt := 38) (pf := 42) (p1 := 39) (pe := 50) (okCZf (p1 := 35) (τa := 0) (okF (p1 := 32) (k := 2) (ok_aload_n dX9_add_31 (.head _) rfl (.head _)) ci_9 (by decide) kf_X9_29 dX9_add_32 (.head _) rfl rfl) (j_if_ne dX9_add_35 rfl) nq_eq (.head _) (.head _)) (ok_iload_n dX9_add_38 (.head _) rfl (.tail _ (.head _)) t_0) dX9_add_39 rfl (.head _) (okMin (p1 := 46) (p2 := 47) (okF (p1 := 43) (k := 4) (ok_aload_n dX9_add_42 (.head _) rfl (.head _)) ci_9 (by decide) kf_X9_16 dX9_add_43 (.head _) rfl rfl) (ok_iload_n dX9_add_46 (.head _) rfl (.tail _ (.head _)) t_0) (by decide) km_X9_38 (Nat.le_of_ble_eq_true rfl) (Nat.le_of_ble_eq_true rfl) dX9_add_47 (.head _))) rfl ci_9 (by decide) kf_X9_16 rfl (fun z _ => qfit_int z) dX9_add_50 (.head _) rfl)
 (okSeq (p1 := 58) (Γ1 := [(0, 2), (1, 0), (2, 0)]) (okPut (p1 := 54) (p2 := 55) (k := 5) (ok_aload_n dX9_add_53 (.head _) rfl (.head _)) (ok_iload_n dX9_add_54 (.head _) rfl (.tail _ (.head _)) t_0) rfl ci_9 (by decide) kf_X9_19 rfl (fun z _ => qfit_int z) dX9_add_55 (.head _) rfl)
 (okSeq (p1 := 72) (Γ1 := [(0, 2), (1, 0), (2, 0)]) (okPutC (p1 := 59) (p2 := 68) (p3 := 69) (k := 0) (τ := 1) (τb := 1) (ok_aload_n dX9_add_58 (.head _) rfl (.head _)) dX9_add_59 dX9_add_60 (okE2 (p1 := 65) (p2 := 67) (τa := 1) (τb := 1) (okL (p1 := 64) (ok_iload_n dX9_add_63 (.head _) rfl (.tail _ (.head _)) t_0) dX9_add_64 (.head _)) (okL (p1 := 66) (ok_iload_n dX9_add_65 (.head _) rfl (.tail _ (.tail _ (.head _))) t_0) dX9_add_66 (.head _)) (s_lmul dX9_add_67 (.head _))) (s_ladd dX9_add_68 (.head _)) rfl ci_9 (by decide) kf_X9_22 rfl (fun z _ => qfit_long z) dX9_add_69 (.head _) rfl)
 (okSeq (p1 := 82) (Γ1 := [(0, 2), (1, 0), (2, 0)]) (okPutC (p1 := 73) (p2 := 78) (p3 := 79) (k := 1) (τ := 0) (τb := 0) (ok_aload_n dX9_add_72 (.head _) rfl (.head _)) dX9_add_73 dX9_add_74 (ok_iload_n dX9_add_77 (.head _) rfl (.tail _ (.tail _ (.head _))) t_0) (s_iadd dX9_add_78 (.head _)) rfl ci_9 (by decide) kf_X9_26 rfl (fun z _ => qfit_int z) dX9_add_79 (.head _) rfl)
 (okSeq (p1 := 92) (Γ1 := [(0, 2), (1, 0), (2, 0)]) (okPutC (p1 := 83) (p2 := 88) (p3 := 89) (k := 2) (τ := 0) (τb := 0) (ok_aload_n dX9_add_82 (.head _) rfl (.head _)) dX9_add_83 dX9_add_84 (ok_iconst dX9_add_87 (.head _) (irn (by decide) (by decide))) (s_iadd dX9_add_88 (.head _)) rfl ci_9 (by decide) kf_X9_29 rfl (fun z _ => qfit_int z) dX9_add_89 (.head _) rfl)
 (okRetV rfl dX9_add_92))))))))
def mX9_add : QM := qM [2, 0, 0] sX9_add
theorem MX9_add : MetY YX9_add yX9_add none [2, 0, 0] mX9_add := metY_of rfl (by decide +kernel) (.inr (.inr (.inr (.inl ⟨rfl, rfl⟩)))) (by decide) oX9_add

abbrev YX8_endStep : YT := (RX8, cX8_endStep, 8, 3, 72, 9)
theorem cf_X8_endStep : CF yX8_endStep 2 := ⟨by decide +kernel, by decide +kernel, by decide +kernel⟩
def cX8_endStep_2 : QC :=
 (cB qlt (eV 7) (eF 6 2 (eV 1)))
def bX8_endStep_2 : QT :=
 (sDo (eCallV 9 mX9_add [(eA 39 (eF 7 1 (eA 37 (eF 8 4 (eV 0)) (eV 7))) (eV 3)), (eF 3 5 (eV 5)), (eV 6)]))
def uX8_endStep_2 : QT :=
 (sInc 7 1)
set_option maxRecDepth 100000 in
theorem obX8_endStep_2 : OkS YX8_endStep [(0, 2), (1, 2), (2, 0), (3, 0), (4, 2), (5, 2), (6, 0), (7, 0)] [(0, 2), (1, 2), (2, 0), (3, 0), (4, 2), (5, 2), (6, 0), (7, 0)] 54 [76] [(0, 2), (1, 2), (2, 0), (3, 0), (4, 2), (5, 2), (6, 0), (7, 0)] [82] [(0, 2), (1, 2), (2, 0), (3, 0), (4, 2), (5, 2), (6, 0), (7, 0)] [76] bX8_endStep_2 := by
  unfold bX8_endStep_2
  exact (okDoV (p1 := 73) (okCons (p1 := 66) (ok_aaload (C := RX9) (by decide) rfl rfl (p1 := 64) (p2 := 65) (okF (p1 := 61) (k := 1) (ok_aaload (C := RX7) (by decide) rfl rfl (p1 := 58) (p2 := 60) (okF (p1 := 55) (k := 4) (ok_aload_n dX8_endStep_54 (.head _) rfl (.head _)) ci_8 (by decide) kf_X8_25 dX8_endStep_55 (.head _) rfl rfl) (ok_iload dX8_endStep_58 (.head _) (.tail _ (.tail _ (.tail _ (.tail _ (.tail _ (.tail _ (.tail _ (.head _)))))))) t_0) dX8_endStep_60 (.head _)) ci_7 (by decide) kf_X8_102 dX8_endStep_61 (.head _) rfl rfl) (ok_iload_n dX8_endStep_64 (.head _) rfl (.tail _ (.tail _ (.tail _ (.head _)))) t_0) dX8_endStep_65 (.head _)) (okCons (p1 := 71) (okF (p1 := 68) (k := 5) (ok_aload dX8_endStep_66 (.head _) (.tail _ (.tail _ (.tail _ (.tail _ (.tail _ (.head _))))))) ci_3 (by decide) kf_X8_106 dX8_endStep_68 (.head _) rfl rfl) (okCons (p1 := 73) (ok_iload dX8_endStep_71 (.head _) (.tail _ (.tail _ (.tail _ (.tail _ (.tail _ (.tail _ (.head _))))))) t_0) okNil))) MX9_add cf_X9_add ci_9 rfl kc_X9_add km_X8_109 ki_X9_add kv_X9_add kn_X9 (Nat.le_of_ble_eq_true rfl) (Nat.le_of_ble_eq_true rfl) dX8_endStep_73 (.head _) rfl)
set_option maxRecDepth 100000 in
theorem ocX8_endStep_2 : OkC YX8_endStep [(0, 2), (1, 2), (2, 0), (3, 0), (4, 2), (5, 2), (6, 0), (7, 0)] 0 45 [54] [82] cX8_endStep_2 := by
  unfold cX8_endStep_2
  exact (okCBf (p1 := 47) (p2 := 51) (τa := 0) (τb := 0) (ok_iload dX8_endStep_45 (.head _) (.tail _ (.tail _ (.tail _ (.tail _ (.tail _ (.tail _ (.tail _ (.head _)))))))) t_0) (okF (p1 := 48) (k := 2) (ok_aload_n dX8_endStep_47 (.head _) rfl (.tail _ (.head _))) ci_6 (by decide) kf_X8_99 dX8_endStep_48 (.head _) rfl rfl) (j_icmp_ge dX8_endStep_51 rfl) nq_lt (.head _) (.head _))
set_option maxRecDepth 100000 in
theorem ouX8_endStep_2 : ∀ t ∈ ([76] : List Nat), OkS YX8_endStep [(0, 2), (1, 2), (2, 0), (3, 0), (4, 2), (5, 2), (6, 0), (7, 0)] [(0, 2), (1, 2), (2, 0), (3, 0), (4, 2), (5, 2), (6, 0), (7, 0)] t [45] [] [] [] [] uX8_endStep_2 := by
  unfold uX8_endStep_2
  exact (one (okEnd (p1 := 79) (tg := 45) (okInc (.tail _ (.tail _ (.tail _ (.tail _ (.tail _ (.tail _ (.tail _ (.head _)))))))) dX8_endStep_76 (by decide) (.head _) (by decide)) dX8_endStep_79 rfl (.head _)))
def cX8_endStep_1 : QC :=
 (cB qlt (eV 3) (eF 6 1 (eV 1)))
def bX8_endStep_1 : QT :=
 (sSeq (sSet 4 (eA 32 (eF 6 3 (eV 1)) (eV 3)))
 (sSeq (sSet 5 (eA 33 (eF 8 2 (eV 0)) (eV 3)))
 (sSeq (sSet 6 (eF 3 6 (eV 5)))
 (sSeq (sDo (eCallV 3 mX3_endStep [(eV 5), (eF 6 0 (eV 1))]))
 (sSeq (sSeq (sSet 7 (eI 0))
 (sWhile cX8_endStep_2 bX8_endStep_2 uX8_endStep_2))
 (sIf (cB qgt (eF 2 6 (eV 4)) (eI 0)) (sDo (eCallV 4 mX4_follow [(eA 34 (eF 8 3 (eV 0)) (eV 3)), (eV 4), (eCall mX11_remainder [(e2 iS (eV 2) (eI 1)), (eF 2 6 (eV 4))]), (eF 3 5 (eV 5))])) sSkip))))))
def uX8_endStep_1 : QT :=
 (sInc 3 1)
set_option maxRecDepth 100000 in
theorem obX8_endStep_1 : OkS YX8_endStep [(0, 2), (1, 2), (2, 0), (3, 0)] [(0, 2), (1, 2), (2, 0), (3, 0)] 10 [117] [(0, 2), (1, 2), (2, 0), (3, 0)] [123] [(0, 2), (1, 2), (2, 0), (3, 0)] [117] bX8_endStep_1 := by
  unfold bX8_endStep_1
  exact (okWeak (Γ1 := [(0, 2), (1, 2), (2, 0), (3, 0), (4, 2), (5, 2), (6, 0)]) (okSeq (p1 := 18) (Γ1 := [(0, 2), (1, 2), (2, 0), (3, 0), (4, 2)]) (ok_astore (Γ' := [(0, 2), (1, 2), (2, 0), (3, 0), (4, 2)]) (p1 := 16) (ok_aaload (C := RX2) (by decide) rfl rfl (p1 := 14) (p2 := 15) (okF (p1 := 11) (k := 3) (ok_aload_n dX8_endStep_10 (.head _) rfl (.tail _ (.head _))) ci_6 (by decide) kf_X8_39 dX8_endStep_11 (.head _) rfl rfl) (ok_iload_n dX8_endStep_14 (.head _) rfl (.tail _ (.tail _ (.tail _ (.head _)))) t_0) dX8_endStep_15 (.head _)) dX8_endStep_16 (by decide) (.head _) (by decide))
 (okSeq (p1 := 26) (Γ1 := [(0, 2), (1, 2), (2, 0), (3, 0), (4, 2), (5, 2)]) (ok_astore (Γ' := [(0, 2), (1, 2), (2, 0), (3, 0), (4, 2), (5, 2)]) (p1 := 24) (ok_aaload (C := RX3) (by decide) rfl rfl (p1 := 22) (p2 := 23) (okF (p1 := 19) (k := 2) (ok_aload_n dX8_endStep_18 (.head _) rfl (.head _)) ci_8 (by decide) kf_X8_11 dX8_endStep_19 (.head _) rfl rfl) (ok_iload_n dX8_endStep_22 (.head _) rfl (.tail _ (.tail _ (.tail _ (.head _)))) t_0) dX8_endStep_23 (.head _)) dX8_endStep_24 (by decide) (.head _) (by decide))
 (okSeq (p1 := 33) (Γ1 := [(0, 2), (1, 2), (2, 0), (3, 0), (4, 2), (5, 2), (6, 0)]) (ok_istore (Γ' := [(0, 2), (1, 2), (2, 0), (3, 0), (4, 2), (5, 2), (6, 0)]) (p1 := 31) (τ := 0) (okF (p1 := 28) (k := 6) (ok_aload dX8_endStep_26 (.head _) (.tail _ (.tail _ (.tail _ (.tail _ (.tail _ (.head _))))))) ci_3 (by decide) kf_X8_94 dX8_endStep_28 (.head _) rfl rfl) t_0 dX8_endStep_31 (by decide) (.head _) (by decide))
 (okSeq (p1 := 42) (Γ1 := [(0, 2), (1, 2), (2, 0), (3, 0), (4, 2), (5, 2), (6, 0)]) (okDoV (p1 := 39) (okCons (p1 := 35) (ok_aload dX8_endStep_33 (.head _) (.tail _ (.tail _ (.tail _ (.tail _ (.tail _ (.head _))))))) (okCons (p1 := 39) (okF (p1 := 36) (k := 0) (ok_aload_n dX8_endStep_35 (.head _) rfl (.tail _ (.head _))) ci_6 (by decide) kf_X8_71 dX8_endStep_36 (.head _) rfl rfl) okNil)) MX3_endStep cf_X3_endStep ci_3 rfl kc_X3_endStep km_X8_97 ki_X3_endStep kv_X3_endStep kn_X3 (Nat.le_of_ble_eq_true rfl) (Nat.le_of_ble_eq_true rfl) dX8_endStep_39 (.head _) rfl)
 (okSeq (p1 := 82) (Γ1 := [(0, 2), (1, 2), (2, 0), (3, 0), (4, 2), (5, 2), (6, 0)]) (okWeak (Γ1 := [(0, 2), (1, 2), (2, 0), (3, 0), (4, 2), (5, 2), (6, 0), (7, 0)]) (okSeq (p1 := 45) (Γ1 := [(0, 2), (1, 2), (2, 0), (3, 0), (4, 2), (5, 2), (6, 0), (7, 0)]) (ok_istore (Γ' := [(0, 2), (1, 2), (2, 0), (3, 0), (4, 2), (5, 2), (6, 0), (7, 0)]) (p1 := 43) (τ := 0) (ok_iconst dX8_endStep_42 (.head _) (irn (by decide) (by decide))) t_0 dX8_endStep_43 (by decide) (.head _) (by decide))
 (okWhile (T := [54]) (F := [82]) (Eb := [76]) ocX8_endStep_2 (fun _ h => h) (one obX8_endStep_2) ouX8_endStep_2)) (by decide))
 (okIf (Γ' := [(0, 2), (1, 2), (2, 0), (3, 0), (4, 2), (5, 2), (6, 0)]) (T := [90]) (F := [117]) (okCZf (p1 := 87) (τa := 0) (okF (p1 := 84) (k := 6) (ok_aload dX8_endStep_82 (.head _) (.tail _ (.tail _ (.tail _ (.tail _ (.head _)))))) ci_2 (by decide) kf_X8_115 dX8_endStep_84 (.head _) rfl rfl) (j_if_le dX8_endStep_87 rfl) nq_gt (.head _) (.head _)) (one (okDoV (p1 := 114) (okCons (p1 := 96) (ok_aaload (C := RX4) (by decide) rfl rfl (p1 := 94) (p2 := 95) (okF (p1 := 91) (k := 3) (ok_aload_n dX8_endStep_90 (.head _) rfl (.head _)) ci_8 (by decide) kf_X8_19 dX8_endStep_91 (.head _) rfl rfl) (ok_iload_n dX8_endStep_94 (.head _) rfl (.tail _ (.tail _ (.tail _ (.head _)))) t_0) dX8_endStep_95 (.head _)) (okCons (p1 := 98) (ok_aload dX8_endStep_96 (.head _) (.tail _ (.tail _ (.tail _ (.tail _ (.head _)))))) (okCons (p1 := 109) (okCallSN (p1 := 106) (okCons (p1 := 101) (okE2 (p1 := 99) (p2 := 100) (τa := 0) (τb := 0) (ok_iload_n dX8_endStep_98 (.head _) rfl (.tail _ (.tail _ (.head _))) t_0) (ok_iconst dX8_endStep_99 (.head _) (irn (by decide) (by decide))) (s_isub dX8_endStep_100 (.head _))) (okCons (p1 := 106) (okF (p1 := 103) (k := 6) (ok_aload dX8_endStep_101 (.head _) (.tail _ (.tail _ (.tail _ (.tail _ (.head _)))))) ci_2 (by decide) kf_X8_115 dX8_endStep_103 (.head _) rfl rfl) okNil)) MX11_remainder cf_X11_remainder kc_X11_remainder nx_X8_74 ks_X11_remainder kn_X11 (Nat.le_of_ble_eq_true rfl) (Nat.le_of_ble_eq_true rfl) dX8_endStep_106 (.head _) (by decide) rfl (by decide)) (okCons (p1 := 114) (okF (p1 := 111) (k := 5) (ok_aload dX8_endStep_109 (.head _) (.tail _ (.tail _ (.tail _ (.tail _ (.tail _ (.head _))))))) ci_3 (by decide) kf_X8_106 dX8_endStep_111 (.head _) rfl rfl) okNil)))) MX4_follow cf_X4_follow ci_4 rfl kc_X4_follow km_X8_120 ki_X4_follow kv_X4_follow kn_X4 (Nat.le_of_ble_eq_true rfl) (Nat.le_of_ble_eq_true rfl) dX8_endStep_114 (.head _) rfl)) (fun t ht => okSkip ht))))))) (by decide))
set_option maxRecDepth 100000 in
theorem ocX8_endStep_1 : OkC YX8_endStep [(0, 2), (1, 2), (2, 0), (3, 0)] 0 2 [10] [123] cX8_endStep_1 := by
  unfold cX8_endStep_1
  exact (okCBf (p1 := 3) (p2 := 7) (τa := 0) (τb := 0) (ok_iload_n dX8_endStep_2 (.head _) rfl (.tail _ (.tail _ (.tail _ (.head _)))) t_0) (okF (p1 := 4) (k := 1) (ok_aload_n dX8_endStep_3 (.head _) rfl (.tail _ (.head _))) ci_6 (by decide) kf_X8_64 dX8_endStep_4 (.head _) rfl rfl) (j_icmp_ge dX8_endStep_7 rfl) nq_lt (.head _) (.head _))
set_option maxRecDepth 100000 in
theorem ouX8_endStep_1 : ∀ t ∈ ([117] : List Nat), OkS YX8_endStep [(0, 2), (1, 2), (2, 0), (3, 0)] [(0, 2), (1, 2), (2, 0), (3, 0)] t [2] [] [] [] [] uX8_endStep_1 := by
  unfold uX8_endStep_1
  exact (one (okEnd (p1 := 120) (tg := 2) (okInc (.tail _ (.tail _ (.tail _ (.head _)))) dX8_endStep_117 (by decide) (.head _) (by decide)) dX8_endStep_120 rfl (.head _)))
def cX8_endStep_3 : QC :=
 (cB qlt (eV 3) (eF 6 2 (eV 1)))
def bX8_endStep_3 : QT :=
 (sSeq (sSet 4 (eA 30 (eF 6 4 (eV 1)) (eV 3)))
 (sIf (cB qeq (eCall mX11_remainder [(eV 2), (eF 0 1 (eV 4))]) (eI 0)) (sDo (eCallV 7 mX7_endRow [(eA 37 (eF 8 4 (eV 0)) (eV 3)), (eV 4), (e2 iS (eCall mX11_quotient_ [(eV 2), (eF 0 1 (eV 4))]) (eI 1))])) sSkip))
def uX8_endStep_3 : QT :=
 (sInc 3 1)
set_option maxRecDepth 100000 in
theorem obX8_endStep_3 : OkS YX8_endStep [(0, 2), (1, 2), (2, 0), (3, 0)] [(0, 2), (1, 2), (2, 0), (3, 0)] 133 [175] [(0, 2), (1, 2), (2, 0), (3, 0)] [181] [(0, 2), (1, 2), (2, 0), (3, 0)] [175] bX8_endStep_3 := by
  unfold bX8_endStep_3
  exact (okWeak (Γ1 := [(0, 2), (1, 2), (2, 0), (3, 0), (4, 2)]) (okSeq (p1 := 141) (Γ1 := [(0, 2), (1, 2), (2, 0), (3, 0), (4, 2)]) (ok_astore (Γ' := [(0, 2), (1, 2), (2, 0), (3, 0), (4, 2)]) (p1 := 139) (ok_aaload (C := RX0) (by decide) rfl rfl (p1 := 137) (p2 := 138) (okF (p1 := 134) (k := 4) (ok_aload_n dX8_endStep_133 (.head _) rfl (.tail _ (.head _))) ci_6 (by decide) kf_X8_123 dX8_endStep_134 (.head _) rfl rfl) (ok_iload_n dX8_endStep_137 (.head _) rfl (.tail _ (.tail _ (.tail _ (.head _)))) t_0) dX8_endStep_138 (.head _)) dX8_endStep_139 (by decide) (.head _) (by decide))
 (okIf (Γ' := [(0, 2), (1, 2), (2, 0), (3, 0), (4, 2)]) (T := [153]) (F := [175]) (okCZf (p1 := 150) (τa := 0) (okCallSN (p1 := 147) (okCons (p1 := 142) (ok_iload_n dX8_endStep_141 (.head _) rfl (.tail _ (.tail _ (.head _))) t_0) (okCons (p1 := 147) (okF (p1 := 144) (k := 1) (ok_aload dX8_endStep_142 (.head _) (.tail _ (.tail _ (.tail _ (.tail _ (.head _)))))) ci_0 (by decide) kf_X8_127 dX8_endStep_144 (.head _) rfl rfl) okNil)) MX11_remainder cf_X11_remainder kc_X11_remainder nx_X8_74 ks_X11_remainder kn_X11 (Nat.le_of_ble_eq_true rfl) (Nat.le_of_ble_eq_true rfl) dX8_endStep_147 (.head _) (by decide) rfl (by decide)) (j_if_ne dX8_endStep_150 rfl) nq_eq (.head _) (.head _)) (one (okDoV (p1 := 172) (okCons (p1 := 159) (ok_aaload (C := RX7) (by decide) rfl rfl (p1 := 157) (p2 := 158) (okF (p1 := 154) (k := 4) (ok_aload_n dX8_endStep_153 (.head _) rfl (.head _)) ci_8 (by decide) kf_X8_25 dX8_endStep_154 (.head _) rfl rfl) (ok_iload_n dX8_endStep_157 (.head _) rfl (.tail _ (.tail _ (.tail _ (.head _)))) t_0) dX8_endStep_158 (.head _)) (okCons (p1 := 161) (ok_aload dX8_endStep_159 (.head _) (.tail _ (.tail _ (.tail _ (.tail _ (.head _)))))) (okCons (p1 := 172) (okE2 (p1 := 170) (p2 := 171) (τa := 0) (τb := 0) (okCallSN (p1 := 167) (okCons (p1 := 162) (ok_iload_n dX8_endStep_161 (.head _) rfl (.tail _ (.tail _ (.head _))) t_0) (okCons (p1 := 167) (okF (p1 := 164) (k := 1) (ok_aload dX8_endStep_162 (.head _) (.tail _ (.tail _ (.tail _ (.tail _ (.head _)))))) ci_0 (by decide) kf_X8_127 dX8_endStep_164 (.head _) rfl rfl) okNil)) MX11_quotient_ cf_X11_quotient_ kc_X11_quotient_ nx_X8_87 ks_X11_quotient_ kn_X11 (Nat.le_of_ble_eq_true rfl) (Nat.le_of_ble_eq_true rfl) dX8_endStep_167 (.head _) (by decide) rfl (by decide)) (ok_iconst dX8_endStep_170 (.head _) (irn (by decide) (by decide))) (s_isub dX8_endStep_171 (.head _))) okNil))) MX7_endRow cf_X7_endRow ci_7 rfl kc_X7_endRow km_X8_132 ki_X7_endRow kv_X7_endRow kn_X7 (Nat.le_of_ble_eq_true rfl) (Nat.le_of_ble_eq_true rfl) dX8_endStep_172 (.head _) rfl)) (fun t ht => okSkip ht))) (by decide))
set_option maxRecDepth 100000 in
theorem ocX8_endStep_3 : OkC YX8_endStep [(0, 2), (1, 2), (2, 0), (3, 0)] 0 125 [133] [181] cX8_endStep_3 := by
  unfold cX8_endStep_3
  exact (okCBf (p1 := 126) (p2 := 130) (τa := 0) (τb := 0) (ok_iload_n dX8_endStep_125 (.head _) rfl (.tail _ (.tail _ (.tail _ (.head _)))) t_0) (okF (p1 := 127) (k := 2) (ok_aload_n dX8_endStep_126 (.head _) rfl (.tail _ (.head _))) ci_6 (by decide) kf_X8_99 dX8_endStep_127 (.head _) rfl rfl) (j_icmp_ge dX8_endStep_130 rfl) nq_lt (.head _) (.head _))
set_option maxRecDepth 100000 in
theorem ouX8_endStep_3 : ∀ t ∈ ([175] : List Nat), OkS YX8_endStep [(0, 2), (1, 2), (2, 0), (3, 0)] [(0, 2), (1, 2), (2, 0), (3, 0)] t [125] [] [] [] [] uX8_endStep_3 := by
  unfold uX8_endStep_3
  exact (one (okEnd (p1 := 178) (tg := 125) (okInc (.tail _ (.tail _ (.tail _ (.head _)))) dX8_endStep_175 (by decide) (.head _) (by decide)) dX8_endStep_178 rfl (.head _)))
def sX8_endStep : QT :=
 (sSeq (sSeq (sSet 3 (eI 0))
 (sWhile cX8_endStep_1 bX8_endStep_1 uX8_endStep_1))
 (sSeq (sSeq (sSet 3 (eI 0))
 (sWhile cX8_endStep_3 bX8_endStep_3 uX8_endStep_3))
 sRetV))
set_option maxRecDepth 100000 in
theorem oX8_endStep : OkS YX8_endStep [(0, 2), (1, 2), (2, 0)] [(0, 2), (1, 2), (2, 0)] 0 [] [] [] [] [] sX8_endStep := by
  unfold sX8_endStep
  exact (okSeq (p1 := 123) (Γ1 := [(0, 2), (1, 2), (2, 0)]) (okWeak (Γ1 := [(0, 2), (1, 2), (2, 0), (3, 0)]) (okSeq (p1 := 2) (Γ1 := [(0, 2), (1, 2), (2, 0), (3, 0)]) (ok_istore_n (Γ' := [(0, 2), (1, 2), (2, 0), (3, 0)]) (p1 := 1) (τ := 0) (ok_iconst dX8_endStep_0 (.head _) (irn (by decide) (by decide))) t_0 dX8_endStep_1 rfl (by decide) (.head _) (by decide))
 (okWhile (T := [10]) (F := [123]) (Eb := [117]) ocX8_endStep_1 (fun _ h => h) (one obX8_endStep_1) ouX8_endStep_1)) (by decide))
 (okSeq (p1 := 181) (Γ1 := [(0, 2), (1, 2), (2, 0)]) (okWeak (Γ1 := [(0, 2), (1, 2), (2, 0), (3, 0)]) (okSeq (p1 := 125) (Γ1 := [(0, 2), (1, 2), (2, 0), (3, 0)]) (ok_istore_n (Γ' := [(0, 2), (1, 2), (2, 0), (3, 0)]) (p1 := 124) (τ := 0) (ok_iconst dX8_endStep_123 (.head _) (irn (by decide) (by decide))) t_0 dX8_endStep_124 rfl (by decide) (.head _) (by decide))
 (okWhile (T := [133]) (F := [181]) (Eb := [175]) ocX8_endStep_3 (fun _ h => h) (one obX8_endStep_3) ouX8_endStep_3)) (by decide))
 (okRetV rfl dX8_endStep_181)))
def mX8_endStep : QM := qM [2, 2, 0] sX8_endStep
theorem MX8_endStep : MetY YX8_endStep yX8_endStep none [2, 2, 0] mX8_endStep := metY_of rfl (by decide +kernel) (.inr (.inr (.inr (.inl ⟨rfl, rfl⟩)))) (by decide) oX8_endStep
