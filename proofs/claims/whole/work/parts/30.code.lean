/-! THE METHODS: what each does, and that its code does it (laid by wip/whole/gen/gen3.py) -/
theorem nx_X3_69 : (RX3, 69, yX11_quotient, "RoundRows") ∈ nestL := List.mem_of_getElem? (i := 9) rfl
theorem nx_X8_74 : (RX8, 74, yX11_remainder, "RoundRows") ∈ nestL := List.mem_of_getElem? (i := 10) rfl
theorem nx_X8_87 : (RX8, 87, yX11_quotient_, "RoundRows") ∈ nestL := List.mem_of_getElem? (i := 11) rfl
theorem nx_X3_97 : (RX3, 97, yX11_valueOf, "RoundRows") ∈ nestL := List.mem_of_getElem? (i := 12) rfl
theorem nx_X4_54 : (RX4, 54, yX11_held, "RoundRows") ∈ nestL := List.mem_of_getElem? (i := 13) rfl
theorem nx_X1_65 : (RX1, 65, yX11_held, "RoundRows") ∈ nestL := List.mem_of_getElem? (i := 14) rfl
abbrev YX10_put : YT := (RX10, cX10_put, 3, 0, 0, 9)
theorem cf_X10_put : CF yX10_put 1 := ⟨by decide +kernel, by decide +kernel, by decide +kernel⟩
def cX10_put_1 : QC :=
 (cB qge (eV 2) (eI 0))
def bX10_put_1 : QT :=
 (sIf (cB qlt (eF 10 1 (eV 0)) (eN (eF 10 0 (eV 0)))) (sSeq (sArr 23 (eF 10 0 (eV 0)) (eF 10 1 (eV 0)) (e1 i2c (e2 iAn (e2 iUs (eV 1) (eV 2)) (eI 255))))
 (sPutC 10 1 (eV 0) iA (eI 1))) sSkip)
def uX10_put_1 : QT :=
 (sInc 2 (-8))
set_option maxRecDepth 100000 in
theorem obX10_put_1 : OkS YX10_put [(0, 2), (1, 0), (2, 0)] [(0, 2), (1, 0), (2, 0)] 7 [46] [(0, 2), (1, 0), (2, 0)] [52] [(0, 2), (1, 0), (2, 0)] [46] bX10_put_1 := by
  unfold bX10_put_1
  exact (okIf (Γ' := [(0, 2), (1, 0), (2, 0)]) (T := [19]) (F := [46]) (okCBf (p1 := 11) (p2 := 16) (τa := 0) (τb := 0) (okF (p1 := 8) (k := 1) (ok_aload_n dX10_put_7 (.head _) rfl (.head _)) ci_10 (by decide) kf_X10_25 dX10_put_8 (.head _) rfl rfl) (ok_alen (p1 := 15) (okF (p1 := 12) (k := 0) (ok_aload_n dX10_put_11 (.head _) rfl (.head _)) ci_10 (by decide) kf_X10_9 dX10_put_12 (.head _) rfl rfl) dX10_put_15 (.head _)) (j_icmp_ge dX10_put_16 rfl) nq_lt (.head _) (.head _)) (one (okSeq (p1 := 36) (Γ1 := [(0, 2), (1, 0), (2, 0)]) (okArr (p1 := 23) (p2 := 27) (p3 := 35) (by decide) (okF (p1 := 20) (k := 0) (ok_aload_n dX10_put_19 (.head _) rfl (.head _)) ci_10 (by decide) kf_X10_9 dX10_put_20 (.head _) rfl rfl) (okF (p1 := 24) (k := 1) (ok_aload_n dX10_put_23 (.head _) rfl (.head _)) ci_10 (by decide) kf_X10_25 dX10_put_24 (.head _) rfl rfl) (okI (τ := 5) (okE1 (p1 := 34) (τa := 0) (okE2 (p1 := 30) (p2 := 33) (τa := 0) (τb := 0) (okE2 (p1 := 28) (p2 := 29) (τa := 0) (τb := 0) (ok_iload_n dX10_put_27 (.head _) rfl (.tail _ (.head _)) t_0) (ok_iload_n dX10_put_28 (.head _) rfl (.tail _ (.tail _ (.head _))) t_0) (s_iushr dX10_put_29 (.head _))) (ok_sipush dX10_put_30 (.head _) ⟨by decide, by decide⟩) (s_iand dX10_put_33 (.head _))) (s_i2c dX10_put_34 (.head _))) t_5) dX10_put_35 (.head _))
 (okPutC (p1 := 37) (p2 := 42) (p3 := 43) (k := 1) (τ := 0) (τb := 0) (ok_aload_n dX10_put_36 (.head _) rfl (.head _)) dX10_put_37 dX10_put_38 (ok_iconst dX10_put_41 (.head _) (irn (by decide) (by decide))) (s_iadd dX10_put_42 (.head _)) rfl ci_10 (by decide) kf_X10_25 rfl (fun z _ => qfit_int z) dX10_put_43 (.head _) rfl))) (fun t ht => okSkip ht))
set_option maxRecDepth 100000 in
theorem ocX10_put_1 : OkC YX10_put [(0, 2), (1, 0), (2, 0)] 0 3 [7] [52] cX10_put_1 := by
  unfold cX10_put_1
  exact (okCZf (p1 := 4) (τa := 0) (ok_iload_n dX10_put_3 (.head _) rfl (.tail _ (.tail _ (.head _))) t_0) (j_if_lt dX10_put_4 rfl) nq_ge (.head _) (.head _))
set_option maxRecDepth 100000 in
theorem ouX10_put_1 : ∀ t ∈ ([46] : List Nat), OkS YX10_put [(0, 2), (1, 0), (2, 0)] [(0, 2), (1, 0), (2, 0)] t [3] [] [] [] [] uX10_put_1 := by
  unfold uX10_put_1
  exact (one (okEnd (p1 := 49) (tg := 3) (okInc (.tail _ (.tail _ (.head _))) dX10_put_46 (by decide) (.head _) (by decide)) dX10_put_49 rfl (.head _)))
def sX10_put : QT :=
 (sSeq (sSeq (sSet 2 (eI 24))
 (sWhile cX10_put_1 bX10_put_1 uX10_put_1))
 sRetV)
set_option maxRecDepth 100000 in
theorem oX10_put : OkS YX10_put [(0, 2), (1, 0)] [(0, 2), (1, 0)] 0 [] [] [] [] [] sX10_put := by
  unfold sX10_put
  exact (okSeq (p1 := 52) (Γ1 := [(0, 2), (1, 0)]) (okWeak (Γ1 := [(0, 2), (1, 0), (2, 0)]) (okSeq (p1 := 3) (Γ1 := [(0, 2), (1, 0), (2, 0)]) (ok_istore_n (Γ' := [(0, 2), (1, 0), (2, 0)]) (p1 := 2) (τ := 0) (ok_bipush dX10_put_0 (.head _) (irn4 (by decide) (by decide))) t_0 dX10_put_2 rfl (by decide) (.head _) (by decide))
 (okWhile (T := [7]) (F := [52]) (Eb := [46]) ocX10_put_1 (fun _ h => h) (one obX10_put_1) ouX10_put_1)) (by decide))
 (okRetV rfl dX10_put_52))
def mX10_put : QM := qM [2, 0] sX10_put
theorem MX10_put : MetY YX10_put yX10_put none [2, 0] mX10_put := metY_of rfl (by decide +kernel) (.inr (.inr (.inr (.inl ⟨rfl, rfl⟩)))) (by decide) oX10_put

abbrev YX11_feed : YT := (RX11, cX11_feed, 6, 1, 22, 0)
theorem cf_X11_feed : CF yX11_feed 5 := ⟨by decide +kernel, by decide +kernel, by decide +kernel⟩
def sX11_feed : QT :=
 (sSeq (sIf (cB qgt (e2 iA (eF 10 1 (eF 11 0 (eV 0))) (eI 20)) (eI 1000)) (sRet (eI (-1))) sSkip)
 (sSeq (sDo (eCallV 10 mX10_put [(eF 11 0 (eV 0)), (eV 1)]))
 (sSeq (sDo (eCallV 10 mX10_put [(eF 11 0 (eV 0)), (eV 2)]))
 (sSeq (sDo (eCallV 10 mX10_put [(eF 11 0 (eV 0)), (eV 3)]))
 (sSeq (sDo (eCallV 10 mX10_put [(eF 11 0 (eV 0)), (eV 4)]))
 (sSeq (sDo (eCallV 10 mX10_put [(eF 11 0 (eV 0)), (eV 5)]))
 (sRet (eF 10 1 (eF 11 0 (eV 0))))))))))
set_option maxRecDepth 100000 in
theorem oX11_feed : OkS YX11_feed [(0, 2), (1, 0), (2, 0), (3, 0), (4, 0), (5, 0)] [(0, 2), (1, 0), (2, 0), (3, 0), (4, 0), (5, 0)] 0 [] [] [] [] [] sX11_feed := by
  unfold sX11_feed
  exact (okSeq (p1 := 18) (Γ1 := [(0, 2), (1, 0), (2, 0), (3, 0), (4, 0), (5, 0)]) (okIf (Γ' := [(0, 2), (1, 0), (2, 0), (3, 0), (4, 0), (5, 0)]) (T := [16]) (F := [18]) (okCBf (p1 := 10) (p2 := 13) (τa := 0) (τb := 0) (okE2 (p1 := 7) (p2 := 9) (τa := 0) (τb := 0) (okF (p1 := 4) (k := 1) (okF (p1 := 1) (k := 0) (ok_aload_n dX11_feed_0 (.head _) rfl (.head _)) ci_11 (by decide) kf_X11_12 dX11_feed_1 (.head _) rfl rfl) ci_10 (by decide) kf_X11_62 dX11_feed_4 (.head _) rfl rfl) (ok_bipush dX11_feed_7 (.head _) (irn4 (by decide) (by decide))) (s_iadd dX11_feed_9 (.head _))) (ok_sipush dX11_feed_10 (.head _) ⟨by decide, by decide⟩) (j_icmp_le dX11_feed_13 rfl) nq_gt (.head _) (.head _)) (one (okRet (p1 := 17) (τ := 0) (ok_iconst dX11_feed_16 (.head _) (irn (by decide) (by decide))) rfl (by decide) dX11_feed_17)) (fun t ht => okSkip ht))
 (okSeq (p1 := 26) (Γ1 := [(0, 2), (1, 0), (2, 0), (3, 0), (4, 0), (5, 0)]) (okDoV (p1 := 23) (okCons (p1 := 22) (okF (p1 := 19) (k := 0) (ok_aload_n dX11_feed_18 (.head _) rfl (.head _)) ci_11 (by decide) kf_X11_12 dX11_feed_19 (.head _) rfl rfl) (okCons (p1 := 23) (ok_iload_n dX11_feed_22 (.head _) rfl (.tail _ (.head _)) t_0) okNil)) MX10_put cf_X10_put ci_10 rfl kc_X10_put km_X11_65 ki_X10_put kv_X10_put kn_X10 (Nat.le_of_ble_eq_true rfl) (Nat.le_of_ble_eq_true rfl) dX11_feed_23 (.head _) rfl)
 (okSeq (p1 := 34) (Γ1 := [(0, 2), (1, 0), (2, 0), (3, 0), (4, 0), (5, 0)]) (okDoV (p1 := 31) (okCons (p1 := 30) (okF (p1 := 27) (k := 0) (ok_aload_n dX11_feed_26 (.head _) rfl (.head _)) ci_11 (by decide) kf_X11_12 dX11_feed_27 (.head _) rfl rfl) (okCons (p1 := 31) (ok_iload_n dX11_feed_30 (.head _) rfl (.tail _ (.tail _ (.head _))) t_0) okNil)) MX10_put cf_X10_put ci_10 rfl kc_X10_put km_X11_65 ki_X10_put kv_X10_put kn_X10 (Nat.le_of_ble_eq_true rfl) (Nat.le_of_ble_eq_true rfl) dX11_feed_31 (.head _) rfl)
 (okSeq (p1 := 42) (Γ1 := [(0, 2), (1, 0), (2, 0), (3, 0), (4, 0), (5, 0)]) (okDoV (p1 := 39) (okCons (p1 := 38) (okF (p1 := 35) (k := 0) (ok_aload_n dX11_feed_34 (.head _) rfl (.head _)) ci_11 (by decide) kf_X11_12 dX11_feed_35 (.head _) rfl rfl) (okCons (p1 := 39) (ok_iload_n dX11_feed_38 (.head _) rfl (.tail _ (.tail _ (.tail _ (.head _)))) t_0) okNil)) MX10_put cf_X10_put ci_10 rfl kc_X10_put km_X11_65 ki_X10_put kv_X10_put kn_X10 (Nat.le_of_ble_eq_true rfl) (Nat.le_of_ble_eq_true rfl) dX11_feed_39 (.head _) rfl)
 (okSeq (p1 := 51) (Γ1 := [(0, 2), (1, 0), (2, 0), (3, 0), (4, 0), (5, 0)]) (okDoV (p1 := 48) (okCons (p1 := 46) (okF (p1 := 43) (k := 0) (ok_aload_n dX11_feed_42 (.head _) rfl (.head _)) ci_11 (by decide) kf_X11_12 dX11_feed_43 (.head _) rfl rfl) (okCons (p1 := 48) (ok_iload dX11_feed_46 (.head _) (.tail _ (.tail _ (.tail _ (.tail _ (.head _))))) t_0) okNil)) MX10_put cf_X10_put ci_10 rfl kc_X10_put km_X11_65 ki_X10_put kv_X10_put kn_X10 (Nat.le_of_ble_eq_true rfl) (Nat.le_of_ble_eq_true rfl) dX11_feed_48 (.head _) rfl)
 (okSeq (p1 := 60) (Γ1 := [(0, 2), (1, 0), (2, 0), (3, 0), (4, 0), (5, 0)]) (okDoV (p1 := 57) (okCons (p1 := 55) (okF (p1 := 52) (k := 0) (ok_aload_n dX11_feed_51 (.head _) rfl (.head _)) ci_11 (by decide) kf_X11_12 dX11_feed_52 (.head _) rfl rfl) (okCons (p1 := 57) (ok_iload dX11_feed_55 (.head _) (.tail _ (.tail _ (.tail _ (.tail _ (.tail _ (.head _)))))) t_0) okNil)) MX10_put cf_X10_put ci_10 rfl kc_X10_put km_X11_65 ki_X10_put kv_X10_put kn_X10 (Nat.le_of_ble_eq_true rfl) (Nat.le_of_ble_eq_true rfl) dX11_feed_57 (.head _) rfl)
 (okRet (p1 := 67) (τ := 0) (okF (p1 := 64) (k := 1) (okF (p1 := 61) (k := 0) (ok_aload_n dX11_feed_60 (.head _) rfl (.head _)) ci_11 (by decide) kf_X11_12 dX11_feed_61 (.head _) rfl rfl) ci_10 (by decide) kf_X11_62 dX11_feed_64 (.head _) rfl rfl) rfl (by decide) dX11_feed_67)))))))
def mX11_feed : QM := qM [2, 0, 0, 0, 0, 0] sX11_feed
theorem MX11_feed : MetY YX11_feed yX11_feed (some .int) [2, 0, 0, 0, 0, 0] mX11_feed := metY_of rfl (by decide +kernel) (.inl ⟨rfl, rfl⟩) (by decide) oX11_feed

abbrev YX11_end : YT := (RX11, cX11_end, 2, 0, 0, 0)
theorem cf_X11_end : CF yX11_end 1 := ⟨by decide +kernel, by decide +kernel, by decide +kernel⟩
def sX11_end : QT :=
 (sSeq (sIf (cOr (cB qlt (eV 1) (eI 0)) (cB qgt (eV 1) (eF 10 1 (eF 11 0 (eV 0))))) (sRet (eI (-1))) sSkip)
 (sSeq (sPut 10 1 (eF 11 0 (eV 0)) (eV 1))
 (sRet (eV 1))))
set_option maxRecDepth 100000 in
theorem oX11_end : OkS YX11_end [(0, 2), (1, 0)] [(0, 2), (1, 0)] 0 [] [] [] [] [] sX11_end := by
  unfold sX11_end
  exact (okSeq (p1 := 17) (Γ1 := [(0, 2), (1, 0)]) (okIf (Γ' := [(0, 2), (1, 0)]) (T := [15]) (F := [17]) (okOr (p1 := 4) (okCZt (p1 := 1) (τa := 0) (ok_iload_n dX11_end_0 (.head _) rfl (.tail _ (.head _)) t_0) (j_if_lt dX11_end_1 rfl) (.head _) (.head _)) (okCBf (p1 := 5) (p2 := 12) (τa := 0) (τb := 0) (ok_iload_n dX11_end_4 (.head _) rfl (.tail _ (.head _)) t_0) (okF (p1 := 9) (k := 1) (okF (p1 := 6) (k := 0) (ok_aload_n dX11_end_5 (.head _) rfl (.head _)) ci_11 (by decide) kf_X11_12 dX11_end_6 (.head _) rfl rfl) ci_10 (by decide) kf_X11_62 dX11_end_9 (.head _) rfl rfl) (j_icmp_le dX11_end_12 rfl) nq_gt (.head _) (.head _))) (one (okRet (p1 := 16) (τ := 0) (ok_iconst dX11_end_15 (.head _) (irn (by decide) (by decide))) rfl (by decide) dX11_end_16)) (fun t ht => okSkip ht))
 (okSeq (p1 := 25) (Γ1 := [(0, 2), (1, 0)]) (okPut (p1 := 21) (p2 := 22) (k := 1) (okF (p1 := 18) (k := 0) (ok_aload_n dX11_end_17 (.head _) rfl (.head _)) ci_11 (by decide) kf_X11_12 dX11_end_18 (.head _) rfl rfl) (ok_iload_n dX11_end_21 (.head _) rfl (.tail _ (.head _)) t_0) rfl ci_10 (by decide) kf_X11_62 rfl (fun z _ => qfit_int z) dX11_end_22 (.head _) rfl)
 (okRet (p1 := 26) (τ := 0) (ok_iload_n dX11_end_25 (.head _) rfl (.tail _ (.head _)) t_0) rfl (by decide) dX11_end_26)))
def mX11_end : QM := qM [2, 0] sX11_end
theorem MX11_end : MetY YX11_end yX11_end (some .int) [2, 0] mX11_end := metY_of rfl (by decide +kernel) (.inl ⟨rfl, rfl⟩) (by decide) oX11_end

abbrev YX11_forgetActs : YT := (RX11, cX11_forgetActs, 1, 0, 0, 9)
theorem cf_X11_forgetActs : CF yX11_forgetActs 0 := ⟨by decide +kernel, by decide +kernel, by decide +kernel⟩
def sX11_forgetActs : QT :=
 (sSeq (sPut 11 6 (eV 0) (eI 0))
 (sSeq (sPut 11 7 (eV 0) (eI 0))
 sRetV))
set_option maxRecDepth 100000 in
theorem oX11_forgetActs : OkS YX11_forgetActs [(0, 2)] [(0, 2)] 0 [] [] [] [] [] sX11_forgetActs := by
  unfold sX11_forgetActs
  exact (okSeq (p1 := 5) (Γ1 := [(0, 2)]) (okPut (p1 := 1) (p2 := 2) (k := 6) (ok_aload_n dX11_forgetActs_0 (.head _) rfl (.head _)) (ok_iconst dX11_forgetActs_1 (.head _) (irn (by decide) (by decide))) rfl ci_11 (by decide) kf_X11_125 rfl (fun z _ => qfit_int z) dX11_forgetActs_2 (.head _) rfl)
 (okSeq (p1 := 10) (Γ1 := [(0, 2)]) (okPut (p1 := 6) (p2 := 7) (k := 7) (ok_aload_n dX11_forgetActs_5 (.head _) rfl (.head _)) (ok_iconst dX11_forgetActs_6 (.head _) (irn (by decide) (by decide))) rfl ci_11 (by decide) kf_X11_131 rfl (fun z _ => qfit_int z) dX11_forgetActs_7 (.head _) rfl)
 (okRetV rfl dX11_forgetActs_10)))
def mX11_forgetActs : QM := qM [2] sX11_forgetActs
theorem MX11_forgetActs : MetY YX11_forgetActs yX11_forgetActs none [2] mX11_forgetActs := metY_of rfl (by decide +kernel) (.inr (.inr (.inr (.inl ⟨rfl, rfl⟩)))) (by decide) oX11_forgetActs

abbrev YX11_now : YT := (RX11, cX11_now, 1, 0, 0, 2)
theorem cf_X11_now : CF yX11_now 0 := ⟨by decide +kernel, by decide +kernel, by decide +kernel⟩
def sX11_now : QT :=
 (sRet (eA 38 (eF 11 4 (eV 0)) (eF 11 5 (eV 0))))
set_option maxRecDepth 100000 in
theorem oX11_now : OkS YX11_now [(0, 2)] [(0, 2)] 0 [] [] [] [] [] sX11_now := by
  unfold sX11_now
  exact (okRet (p1 := 9) (τ := 2) (ok_aaload (C := RX8) (by decide) rfl rfl (p1 := 4) (p2 := 8) (okF (p1 := 1) (k := 4) (ok_aload_n dX11_now_0 (.head _) rfl (.head _)) ci_11 (by decide) kf_X11_35 dX11_now_1 (.head _) rfl rfl) (okF (p1 := 5) (k := 5) (ok_aload_n dX11_now_4 (.head _) rfl (.head _)) ci_11 (by decide) kf_X11_128 dX11_now_5 (.head _) rfl rfl) dX11_now_8 (.head _)) rfl (by decide) dX11_now_9)
def mX11_now : QM := qM [2] sX11_now
theorem MX11_now : MetY YX11_now yX11_now (some (.object RX8)) [2] mX11_now := metY_of rfl (by decide +kernel) (.inr (.inr (.inr (.inr ⟨_, rfl, rfl⟩)))) (by decide) oX11_now

abbrev YX10_isToken : YT := (RX10, cX10_isToken, 2, 0, 0, 3)
theorem cf_X10_isToken : CF yX10_isToken 1 := ⟨by decide +kernel, by decide +kernel, by decide +kernel⟩
def sX10_isToken : QT :=
 (sRet (eB (cAnd (cB qge (eV 1) (eI 0)) (cB qlt (eV 1) (eF 10 5 (eV 0))))))
set_option maxRecDepth 100000 in
theorem oX10_isToken : OkS YX10_isToken [(0, 2), (1, 0)] [(0, 2), (1, 0)] 0 [] [] [] [] [] sX10_isToken := by
  unfold sX10_isToken
  exact (okRet (p1 := 17) (τ := 3) (okBv (pt := 12) (pf := 16) (pe := 17) (okAnd (p1 := 4) (okCZf (p1 := 1) (τa := 0) (ok_iload_n dX10_isToken_0 (.head _) rfl (.tail _ (.head _)) t_0) (j_if_lt dX10_isToken_1 rfl) nq_ge (.head _) (.head _)) (okCBf (p1 := 5) (p2 := 9) (τa := 0) (τb := 0) (ok_iload_n dX10_isToken_4 (.head _) rfl (.tail _ (.head _)) t_0) (okF (p1 := 6) (k := 5) (ok_aload_n dX10_isToken_5 (.head _) rfl (.head _)) ci_10 (by decide) kf_X10_29 dX10_isToken_6 (.head _) rfl rfl) (j_icmp_ge dX10_isToken_9 rfl) nq_lt (.head _) (.head _))) dX10_isToken_12 dX10_isToken_13 rfl dX10_isToken_16 (.head _) (.head _)) rfl (by decide) dX10_isToken_17)
def mX10_isToken : QM := qM [2, 0] sX10_isToken
theorem MX10_isToken : MetY YX10_isToken yX10_isToken (some .boolean) [2, 0] mX10_isToken := metY_of rfl (by decide +kernel) (.inr (.inl ⟨rfl, rfl⟩)) (by decide) oX10_isToken

abbrev YX10_placeOf : YT := (RX10, cX10_placeOf, 2, 1, 21, 0)
theorem cf_X10_placeOf : CF yX10_placeOf 1 := ⟨by decide +kernel, by decide +kernel, by decide +kernel⟩
def sX10_placeOf : QT :=
 (sRet (eIf (cE (eCallV 10 mX10_isToken [(eV 0), (eV 1)])) (eA 20 (eF 10 3 (eV 0)) (eV 1)) (eF 10 1 (eV 0))))
set_option maxRecDepth 100000 in
theorem oX10_placeOf : OkS YX10_placeOf [(0, 2), (1, 0)] [(0, 2), (1, 0)] 0 [] [] [] [] [] sX10_placeOf := by
  unfold sX10_placeOf
  exact (okRet (p1 := 21) (τ := 0) (okIfE (pt := 8) (pf := 17) (p1 := 14) (pe := 21) (okCEf (p1 := 5) (okI (τ := 3) (okCallV (p1 := 2) (okCons (p1 := 1) (ok_aload_n dX10_placeOf_0 (.head _) rfl (.head _)) (okCons (p1 := 2) (ok_iload_n dX10_placeOf_1 (.head _) rfl (.tail _ (.head _)) t_0) okNil)) MX10_isToken cf_X10_isToken ci_10 rfl kc_X10_isToken km_X10_68 ki_X10_isToken kv_X10_isToken kn_X10 (Nat.le_of_ble_eq_true rfl) (Nat.le_of_ble_eq_true rfl) dX10_placeOf_2 (.head _) (by decide) rfl (by decide)) t_3) (j_if_eq dX10_placeOf_5 rfl) (.head _) (.head _)) (ok_iaload (.inl rfl) (p1 := 12) (p2 := 13) (okF (p1 := 9) (k := 3) (ok_aload_n dX10_placeOf_8 (.head _) rfl (.head _)) ci_10 (by decide) kf_X10_19 dX10_placeOf_9 (.head _) rfl rfl) (ok_iload_n dX10_placeOf_12 (.head _) rfl (.tail _ (.head _)) t_0) dX10_placeOf_13 (.head _)) dX10_placeOf_14 rfl (.head _) (okF (p1 := 18) (k := 1) (ok_aload_n dX10_placeOf_17 (.head _) rfl (.head _)) ci_10 (by decide) kf_X10_25 dX10_placeOf_18 (.head _) rfl rfl)) rfl (by decide) dX10_placeOf_21)
def mX10_placeOf : QM := qM [2, 0] sX10_placeOf
theorem MX10_placeOf : MetY YX10_placeOf yX10_placeOf (some .int) [2, 0] mX10_placeOf := metY_of rfl (by decide +kernel) (.inl ⟨rfl, rfl⟩) (by decide) oX10_placeOf

abbrev YX5_fail : YT := (RX5, cX5_fail, 2, 2, 42, 3)
theorem cf_X5_fail : CF yX5_fail 1 := ⟨by decide +kernel, by decide +kernel, by decide +kernel⟩
def sX5_fail : QT :=
 (sSeq (sPut 5 3 (eV 0) (eV 1))
 (sSeq (sPut 5 4 (eV 0) (eCallV 10 mX10_placeOf [(eF 5 0 (eV 0)), (eF 5 2 (eV 0))]))
 (sRet (eI 0))))
set_option maxRecDepth 100000 in
theorem oX5_fail : OkS YX5_fail [(0, 2), (1, 0)] [(0, 2), (1, 0)] 0 [] [] [] [] [] sX5_fail := by
  unfold sX5_fail
  exact (okSeq (p1 := 5) (Γ1 := [(0, 2), (1, 0)]) (okPut (p1 := 1) (p2 := 2) (k := 3) (ok_aload_n dX5_fail_0 (.head _) rfl (.head _)) (ok_iload_n dX5_fail_1 (.head _) rfl (.tail _ (.head _)) t_0) rfl ci_5 (by decide) kf_X5_41 rfl (fun z _ => qfit_int z) dX5_fail_2 (.head _) rfl)
 (okSeq (p1 := 20) (Γ1 := [(0, 2), (1, 0)]) (okPut (p1 := 6) (p2 := 17) (k := 4) (ok_aload_n dX5_fail_5 (.head _) rfl (.head _)) (okCallV (p1 := 14) (okCons (p1 := 10) (okF (p1 := 7) (k := 0) (ok_aload_n dX5_fail_6 (.head _) rfl (.head _)) ci_5 (by decide) kf_X5_21 dX5_fail_7 (.head _) rfl rfl) (okCons (p1 := 14) (okF (p1 := 11) (k := 2) (ok_aload_n dX5_fail_10 (.head _) rfl (.head _)) ci_5 (by decide) kf_X5_34 dX5_fail_11 (.head _) rfl rfl) okNil)) MX10_placeOf cf_X10_placeOf ci_10 rfl kc_X10_placeOf km_X5_77 ki_X10_placeOf kv_X10_placeOf kn_X10 (Nat.le_of_ble_eq_true rfl) (Nat.le_of_ble_eq_true rfl) dX5_fail_14 (.head _) (by decide) rfl (by decide)) rfl ci_5 (by decide) kf_X5_44 rfl (fun z _ => qfit_int z) dX5_fail_17 (.head _) rfl)
 (okRet (p1 := 21) (τ := 3) (ok_zconst dX5_fail_20 (.head _) ⟨by decide, by decide⟩) rfl (by decide) dX5_fail_21)))
def mX5_fail : QM := qM [2, 0] sX5_fail
theorem MX5_fail : MetY YX5_fail yX5_fail (some .boolean) [2, 0] mX5_fail := metY_of rfl (by decide +kernel) (.inr (.inl ⟨rfl, rfl⟩)) (by decide) oX5_fail

abbrev YX10_kindAt : YT := (RX10, cX10_kindAt, 2, 1, 21, 0)
theorem cf_X10_kindAt : CF yX10_kindAt 1 := ⟨by decide +kernel, by decide +kernel, by decide +kernel⟩
def sX10_kindAt : QT :=
 (sRet (eIf (cE (eCallV 10 mX10_isToken [(eV 0), (eV 1)])) (eA 20 (eF 10 2 (eV 0)) (eV 1)) (eI 1)))
set_option maxRecDepth 100000 in
theorem oX10_kindAt : OkS YX10_kindAt [(0, 2), (1, 0)] [(0, 2), (1, 0)] 0 [] [] [] [] [] sX10_kindAt := by
  unfold sX10_kindAt
  exact (okRet (p1 := 18) (τ := 0) (okIfE (pt := 8) (pf := 17) (p1 := 14) (pe := 18) (okCEf (p1 := 5) (okI (τ := 3) (okCallV (p1 := 2) (okCons (p1 := 1) (ok_aload_n dX10_kindAt_0 (.head _) rfl (.head _)) (okCons (p1 := 2) (ok_iload_n dX10_kindAt_1 (.head _) rfl (.tail _ (.head _)) t_0) okNil)) MX10_isToken cf_X10_isToken ci_10 rfl kc_X10_isToken km_X10_68 ki_X10_isToken kv_X10_isToken kn_X10 (Nat.le_of_ble_eq_true rfl) (Nat.le_of_ble_eq_true rfl) dX10_kindAt_2 (.head _) (by decide) rfl (by decide)) t_3) (j_if_eq dX10_kindAt_5 rfl) (.head _) (.head _)) (ok_iaload (.inl rfl) (p1 := 12) (p2 := 13) (okF (p1 := 9) (k := 2) (ok_aload_n dX10_kindAt_8 (.head _) rfl (.head _)) ci_10 (by decide) kf_X10_15 dX10_kindAt_9 (.head _) rfl rfl) (ok_iload_n dX10_kindAt_12 (.head _) rfl (.tail _ (.head _)) t_0) dX10_kindAt_13 (.head _)) dX10_kindAt_14 rfl (.head _) (ok_iconst dX10_kindAt_17 (.head _) (irn (by decide) (by decide)))) rfl (by decide) dX10_kindAt_18)
def mX10_kindAt : QM := qM [2, 0] sX10_kindAt
theorem MX10_kindAt : MetY YX10_kindAt yX10_kindAt (some .int) [2, 0] mX10_kindAt := metY_of rfl (by decide +kernel) (.inl ⟨rfl, rfl⟩) (by decide) oX10_kindAt

abbrev YX5_kind : YT := (RX5, cX5_kind, 1, 2, 42, 0)
theorem cf_X5_kind : CF yX5_kind 0 := ⟨by decide +kernel, by decide +kernel, by decide +kernel⟩
def sX5_kind : QT :=
 (sRet (eCallV 10 mX10_kindAt [(eF 5 0 (eV 0)), (eF 5 2 (eV 0))]))
set_option maxRecDepth 100000 in
theorem oX5_kind : OkS YX5_kind [(0, 2)] [(0, 2)] 0 [] [] [] [] [] sX5_kind := by
  unfold sX5_kind
  exact (okRet (p1 := 11) (τ := 0) (okCallV (p1 := 8) (okCons (p1 := 4) (okF (p1 := 1) (k := 0) (ok_aload_n dX5_kind_0 (.head _) rfl (.head _)) ci_5 (by decide) kf_X5_21 dX5_kind_1 (.head _) rfl rfl) (okCons (p1 := 8) (okF (p1 := 5) (k := 2) (ok_aload_n dX5_kind_4 (.head _) rfl (.head _)) ci_5 (by decide) kf_X5_34 dX5_kind_5 (.head _) rfl rfl) okNil)) MX10_kindAt cf_X10_kindAt ci_10 rfl kc_X10_kindAt km_X5_71 ki_X10_kindAt kv_X10_kindAt kn_X10 (Nat.le_of_ble_eq_true rfl) (Nat.le_of_ble_eq_true rfl) dX5_kind_8 (.head _) (by decide) rfl (by decide)) rfl (by decide) dX5_kind_11)
def mX5_kind : QM := qM [2] sX5_kind
theorem MX5_kind : MetY YX5_kind yX5_kind (some .int) [2] mX5_kind := metY_of rfl (by decide +kernel) (.inl ⟨rfl, rfl⟩) (by decide) oX5_kind

abbrev YX5_howHere : YT := (RX5, cX5_howHere, 1, 3, 62, 0)
theorem cf_X5_howHere : CF yX5_howHere 0 := ⟨by decide +kernel, by decide +kernel, by decide +kernel⟩
def sX5_howHere : QT :=
 (sSw (eCallV 5 mX5_kind [(eV 0)]) [([265], (sRet (eI 0))), ([263], (sRet (eI 1))), ([262], (sRet (eI 2))), ([266], (sRet (eI 3)))] (sRet (eI (-1))))
set_option maxRecDepth 100000 in
theorem oX5_howHere : OkS YX5_howHere [(0, 2)] [(0, 2)] 0 [] [] [] [] [] sX5_howHere := by
  unfold sX5_howHere
  exact (okSw (Γ' := [(0, 2)]) (p1 := 4) (df := 48) (tb := [(262, 44), (263, 42), (264, 48), (265, 40), (266, 46)]) [([265], 40, (sRet (eI 0))), ([263], 42, (sRet (eI 1))), ([262], 44, (sRet (eI 2))), ([266], 46, (sRet (eI 3)))] rfl (okCallV (p1 := 1) (okCons (p1 := 1) (ok_aload_n dX5_howHere_0 (.head _) rfl (.head _)) okNil) MX5_kind cf_X5_kind ci_5 rfl kc_X5_kind km_X5_47 ki_X5_kind kv_X5_kind kn_X5 (Nat.le_of_ble_eq_true rfl) (Nat.le_of_ble_eq_true rfl) dX5_howHere_1 (.head _) (by decide) rfl (by decide)) (sw_table (tb := [(262, 44), (263, 42), (264, 48), (265, 40), (266, 46)]) (df := 48) (K := 5) dX5_howHere_4 rfl (by decide +kernel) (by decide +kernel) (by decide +kernel))
 (okCsCons (okRet (p1 := 41) (τ := 0) (ok_iconst dX5_howHere_40 (.head _) (irn (by decide) (by decide))) rfl (by decide) dX5_howHere_41)
 (okCsCons (okRet (p1 := 43) (τ := 0) (ok_iconst dX5_howHere_42 (.head _) (irn (by decide) (by decide))) rfl (by decide) dX5_howHere_43)
 (okCsCons (okRet (p1 := 45) (τ := 0) (ok_iconst dX5_howHere_44 (.head _) (irn (by decide) (by decide))) rfl (by decide) dX5_howHere_45)
 (okCsCons (okRet (p1 := 47) (τ := 0) (ok_iconst dX5_howHere_46 (.head _) (irn (by decide) (by decide))) rfl (by decide) dX5_howHere_47)
 okCsNil)))) (okRet (p1 := 49) (τ := 0) (ok_iconst dX5_howHere_48 (.head _) (irn (by decide) (by decide))) rfl (by decide) dX5_howHere_49) (by decide +kernel) (by decide +kernel))
def mX5_howHere : QM := qM [2] sX5_howHere
theorem MX5_howHere : MetY YX5_howHere yX5_howHere (some .int) [2] mX5_howHere := metY_of rfl (by decide +kernel) (.inl ⟨rfl, rfl⟩) (by decide) oX5_howHere

abbrev YX5_take : YT := (RX5, cX5_take, 2, 3, 63, 3)
theorem cf_X5_take : CF yX5_take 1 := ⟨by decide +kernel, by decide +kernel, by decide +kernel⟩
def sX5_take : QT :=
 (sSeq (sIf (cB qne (eCallV 5 mX5_kind [(eV 0)]) (eV 1)) (sRet (eCallV 5 mX5_fail [(eV 0), (eI 1)])) sSkip)
 (sSeq (sPutC 5 2 (eV 0) iA (eI 1))
 (sRet (eI 1))))
set_option maxRecDepth 100000 in
theorem oX5_take : OkS YX5_take [(0, 2), (1, 0)] [(0, 2), (1, 0)] 0 [] [] [] [] [] sX5_take := by
  unfold sX5_take
  exact (okSeq (p1 := 14) (Γ1 := [(0, 2), (1, 0)]) (okIf (Γ' := [(0, 2), (1, 0)]) (T := [8]) (F := [14]) (okCBf (p1 := 4) (p2 := 5) (τa := 0) (τb := 0) (okCallV (p1 := 1) (okCons (p1 := 1) (ok_aload_n dX5_take_0 (.head _) rfl (.head _)) okNil) MX5_kind cf_X5_kind ci_5 rfl kc_X5_kind km_X5_47 ki_X5_kind kv_X5_kind kn_X5 (Nat.le_of_ble_eq_true rfl) (Nat.le_of_ble_eq_true rfl) dX5_take_1 (.head _) (by decide) rfl (by decide)) (ok_iload_n dX5_take_4 (.head _) rfl (.tail _ (.head _)) t_0) (j_icmp_eq dX5_take_5 rfl) nq_ne (.head _) (.head _)) (one (okRet (p1 := 13) (τ := 3) (okCallV (p1 := 10) (okCons (p1 := 9) (ok_aload_n dX5_take_8 (.head _) rfl (.head _)) (okCons (p1 := 10) (ok_iconst dX5_take_9 (.head _) (irn (by decide) (by decide))) okNil)) MX5_fail cf_X5_fail ci_5 rfl kc_X5_fail km_X5_51 ki_X5_fail kv_X5_fail kn_X5 (Nat.le_of_ble_eq_true rfl) (Nat.le_of_ble_eq_true rfl) dX5_take_10 (.head _) (by decide) rfl (by decide)) rfl (by decide) dX5_take_13)) (fun t ht => okSkip ht))
 (okSeq (p1 := 24) (Γ1 := [(0, 2), (1, 0)]) (okPutC (p1 := 15) (p2 := 20) (p3 := 21) (k := 2) (τ := 0) (τb := 0) (ok_aload_n dX5_take_14 (.head _) rfl (.head _)) dX5_take_15 dX5_take_16 (ok_iconst dX5_take_19 (.head _) (irn (by decide) (by decide))) (s_iadd dX5_take_20 (.head _)) rfl ci_5 (by decide) kf_X5_34 rfl (fun z _ => qfit_int z) dX5_take_21 (.head _) rfl)
 (okRet (p1 := 25) (τ := 3) (ok_zconst dX5_take_24 (.head _) ⟨by decide, by decide⟩) rfl (by decide) dX5_take_25)))
def mX5_take : QM := qM [2, 0] sX5_take
theorem MX5_take : MetY YX5_take yX5_take (some .boolean) [2, 0] mX5_take := metY_of rfl (by decide +kernel) (.inr (.inl ⟨rfl, rfl⟩)) (by decide) oX5_take

abbrev YX10_numberOf : YT := (RX10, cX10_numberOf, 4, 1, 21, 0)
theorem cf_X10_numberOf : CF yX10_numberOf 1 := ⟨by decide +kernel, by decide +kernel, by decide +kernel⟩
def cX10_numberOf_1 : QC :=
 (cB qlt (eV 3) (eA 20 (eF 10 4 (eV 0)) (eV 1)))
def bX10_numberOf_1 : QT :=
 (sSeq (sSet 2 (e2 iA (e2 iM (eV 2) (eI 10)) (e2 iS (eA 23 (eF 10 0 (eV 0)) (eV 3)) (eI 48))))
 (sIf (cB qgt (eV 2) (eI 999999)) (sRet (eI 1000000)) sSkip))
def uX10_numberOf_1 : QT :=
 (sInc 3 1)
set_option maxRecDepth 100000 in
theorem obX10_numberOf_1 : OkS YX10_numberOf [(0, 2), (1, 0), (2, 0), (3, 0)] [(0, 2), (1, 0), (2, 0), (3, 0)] 27 [51] [(0, 2), (1, 0), (2, 0), (3, 0)] [57] [(0, 2), (1, 0), (2, 0), (3, 0)] [51] bX10_numberOf_1 := by
  unfold bX10_numberOf_1
  exact (okWeak (Γ1 := [(0, 2), (1, 0), (3, 0), (2, 0)]) (okSeq (p1 := 42) (Γ1 := [(0, 2), (1, 0), (3, 0), (2, 0)]) (ok_istore_n (Γ' := [(0, 2), (1, 0), (3, 0), (2, 0)]) (p1 := 41) (τ := 0) (okE2 (p1 := 31) (p2 := 40) (τa := 0) (τb := 0) (okE2 (p1 := 28) (p2 := 30) (τa := 0) (τb := 0) (ok_iload_n dX10_numberOf_27 (.head _) rfl (.tail _ (.tail _ (.head _))) t_0) (ok_bipush dX10_numberOf_28 (.head _) (irn4 (by decide) (by decide))) (s_imul dX10_numberOf_30 (.head _))) (okE2 (p1 := 37) (p2 := 39) (τa := 0) (τb := 0) (okI (τ := 5) (ok_caload (p1 := 35) (p2 := 36) (okF (p1 := 32) (k := 0) (ok_aload_n dX10_numberOf_31 (.head _) rfl (.head _)) ci_10 (by decide) kf_X10_9 dX10_numberOf_32 (.head _) rfl rfl) (ok_iload_n dX10_numberOf_35 (.head _) rfl (.tail _ (.tail _ (.tail _ (.head _)))) t_0) dX10_numberOf_36 (.head _)) t_5) (ok_bipush dX10_numberOf_37 (.head _) (irn4 (by decide) (by decide))) (s_isub dX10_numberOf_39 (.head _))) (s_iadd dX10_numberOf_40 (.head _))) t_0 dX10_numberOf_41 rfl (by decide) (.head _) (by decide))
 (okIf (Γ' := [(0, 2), (1, 0), (3, 0), (2, 0)]) (T := [48]) (F := [51]) (okCBf (p1 := 43) (p2 := 45) (τa := 0) (τb := 0) (ok_iload_n dX10_numberOf_42 (.head _) rfl (.tail _ (.tail _ (.tail _ (.head _)))) t_0) (ok_ldc kk_X10_72 (by decide) dX10_numberOf_43 (.head _)) (j_icmp_le dX10_numberOf_45 rfl) nq_gt (.head _) (.head _)) (one (okRet (p1 := 50) (τ := 0) (ok_ldc kk_X10_73 (by decide) dX10_numberOf_48 (.head _)) rfl (by decide) dX10_numberOf_50)) (fun t ht => okSkip ht))) (by decide))
set_option maxRecDepth 100000 in
theorem ocX10_numberOf_1 : OkC YX10_numberOf [(0, 2), (1, 0), (2, 0), (3, 0)] 0 17 [27] [57] cX10_numberOf_1 := by
  unfold cX10_numberOf_1
  exact (okCBf (p1 := 18) (p2 := 24) (τa := 0) (τb := 0) (ok_iload_n dX10_numberOf_17 (.head _) rfl (.tail _ (.tail _ (.tail _ (.head _)))) t_0) (ok_iaload (.inl rfl) (p1 := 22) (p2 := 23) (okF (p1 := 19) (k := 4) (ok_aload_n dX10_numberOf_18 (.head _) rfl (.head _)) ci_10 (by decide) kf_X10_22 dX10_numberOf_19 (.head _) rfl rfl) (ok_iload_n dX10_numberOf_22 (.head _) rfl (.tail _ (.head _)) t_0) dX10_numberOf_23 (.head _)) (j_icmp_ge dX10_numberOf_24 rfl) nq_lt (.head _) (.head _))
set_option maxRecDepth 100000 in
theorem ouX10_numberOf_1 : ∀ t ∈ ([51] : List Nat), OkS YX10_numberOf [(0, 2), (1, 0), (2, 0), (3, 0)] [(0, 2), (1, 0), (2, 0), (3, 0)] t [17] [] [] [] [] uX10_numberOf_1 := by
  unfold uX10_numberOf_1
  exact (one (okEnd (p1 := 54) (tg := 17) (okInc (.tail _ (.tail _ (.tail _ (.head _)))) dX10_numberOf_51 (by decide) (.head _) (by decide)) dX10_numberOf_54 rfl (.head _)))
def sX10_numberOf : QT :=
 (sSeq (sSet 2 (eI 0))
 (sSeq (sIf (cE (eCallV 10 mX10_isToken [(eV 0), (eV 1)])) (sSeq (sSet 3 (eA 20 (eF 10 3 (eV 0)) (eV 1)))
 (sWhile cX10_numberOf_1 bX10_numberOf_1 uX10_numberOf_1)) sSkip)
 (sRet (eV 2))))
set_option maxRecDepth 100000 in
theorem oX10_numberOf : OkS YX10_numberOf [(0, 2), (1, 0)] [(0, 2), (1, 0), (2, 0)] 0 [] [] [] [] [] sX10_numberOf := by
  unfold sX10_numberOf
  exact (okSeq (p1 := 2) (Γ1 := [(0, 2), (1, 0), (2, 0)]) (ok_istore_n (Γ' := [(0, 2), (1, 0), (2, 0)]) (p1 := 1) (τ := 0) (ok_iconst dX10_numberOf_0 (.head _) (irn (by decide) (by decide))) t_0 dX10_numberOf_1 rfl (by decide) (.head _) (by decide))
 (okSeq (p1 := 57) (Γ1 := [(0, 2), (1, 0), (2, 0)]) (okIf (Γ' := [(0, 2), (1, 0), (2, 0)]) (T := [10]) (F := [57]) (okCEf (p1 := 7) (okI (τ := 3) (okCallV (p1 := 4) (okCons (p1 := 3) (ok_aload_n dX10_numberOf_2 (.head _) rfl (.head _)) (okCons (p1 := 4) (ok_iload_n dX10_numberOf_3 (.head _) rfl (.tail _ (.head _)) t_0) okNil)) MX10_isToken cf_X10_isToken ci_10 rfl kc_X10_isToken km_X10_68 ki_X10_isToken kv_X10_isToken kn_X10 (Nat.le_of_ble_eq_true rfl) (Nat.le_of_ble_eq_true rfl) dX10_numberOf_4 (.head _) (by decide) rfl (by decide)) t_3) (j_if_eq dX10_numberOf_7 rfl) (.head _) (.head _)) (one (okWeak (Γ1 := [(0, 2), (1, 0), (2, 0), (3, 0)]) (okSeq (p1 := 17) (Γ1 := [(0, 2), (1, 0), (2, 0), (3, 0)]) (ok_istore_n (Γ' := [(0, 2), (1, 0), (2, 0), (3, 0)]) (p1 := 16) (τ := 0) (ok_iaload (.inl rfl) (p1 := 14) (p2 := 15) (okF (p1 := 11) (k := 3) (ok_aload_n dX10_numberOf_10 (.head _) rfl (.head _)) ci_10 (by decide) kf_X10_19 dX10_numberOf_11 (.head _) rfl rfl) (ok_iload_n dX10_numberOf_14 (.head _) rfl (.tail _ (.head _)) t_0) dX10_numberOf_15 (.head _)) t_0 dX10_numberOf_16 rfl (by decide) (.head _) (by decide))
 (okWhile (T := [27]) (F := [57]) (Eb := [51]) ocX10_numberOf_1 (fun _ h => h) (one obX10_numberOf_1) ouX10_numberOf_1)) (by decide))) (fun t ht => okSkip ht))
 (okRet (p1 := 58) (τ := 0) (ok_iload_n dX10_numberOf_57 (.head _) rfl (.tail _ (.tail _ (.head _))) t_0) rfl (by decide) dX10_numberOf_58)))
def mX10_numberOf : QM := qM [2, 0] sX10_numberOf
theorem MX10_numberOf : MetY YX10_numberOf yX10_numberOf (some .int) [2, 0] mX10_numberOf := metY_of rfl (by decide +kernel) (.inl ⟨rfl, rfl⟩) (by decide) oX10_numberOf

abbrev YX5_takeNumber : YT := (RX5, cX5_takeNumber, 4, 3, 63, 0)
theorem cf_X5_takeNumber : CF yX5_takeNumber 2 := ⟨by decide +kernel, by decide +kernel, by decide +kernel⟩
def sX5_takeNumber : QT :=
 (sSeq (sIf (cB qne (eCallV 5 mX5_kind [(eV 0)]) (eI 3)) (sSeq (sDo (eCallV 5 mX5_fail [(eV 0), (eI 1)]))
 (sRet (eI (-1)))) sSkip)
 (sSeq (sSet 3 (eCallV 10 mX10_numberOf [(eF 5 0 (eV 0)), (eF 5 2 (eV 0))]))
 (sSeq (sIf (cOr (cB qlt (eV 3) (eV 1)) (cB qgt (eV 3) (eV 2))) (sSeq (sDo (eCallV 5 mX5_fail [(eV 0), (eI 2)]))
 (sRet (eI (-1)))) sSkip)
 (sSeq (sPutC 5 2 (eV 0) iA (eI 1))
 (sRet (eV 3))))))
set_option maxRecDepth 100000 in
theorem oX5_takeNumber : OkS YX5_takeNumber [(0, 2), (1, 0), (2, 0)] [(0, 2), (1, 0), (2, 0), (3, 0)] 0 [] [] [] [] [] sX5_takeNumber := by
  unfold sX5_takeNumber
  exact (okSeq (p1 := 16) (Γ1 := [(0, 2), (1, 0), (2, 0)]) (okIf (Γ' := [(0, 2), (1, 0), (2, 0)]) (T := [8]) (F := [16]) (okCBf (p1 := 4) (p2 := 5) (τa := 0) (τb := 0) (okCallV (p1 := 1) (okCons (p1 := 1) (ok_aload_n dX5_takeNumber_0 (.head _) rfl (.head _)) okNil) MX5_kind cf_X5_kind ci_5 rfl kc_X5_kind km_X5_47 ki_X5_kind kv_X5_kind kn_X5 (Nat.le_of_ble_eq_true rfl) (Nat.le_of_ble_eq_true rfl) dX5_takeNumber_1 (.head _) (by decide) rfl (by decide)) (ok_iconst dX5_takeNumber_4 (.head _) (irn (by decide) (by decide))) (j_icmp_eq dX5_takeNumber_5 rfl) nq_ne (.head _) (.head _)) (one (okSeq (p1 := 14) (Γ1 := [(0, 2), (1, 0), (2, 0)]) (okDoP (p1 := 13) (τ := 3) (okCallV (p1 := 10) (okCons (p1 := 9) (ok_aload_n dX5_takeNumber_8 (.head _) rfl (.head _)) (okCons (p1 := 10) (ok_iconst dX5_takeNumber_9 (.head _) (irn (by decide) (by decide))) okNil)) MX5_fail cf_X5_fail ci_5 rfl kc_X5_fail km_X5_51 ki_X5_fail kv_X5_fail kn_X5 (Nat.le_of_ble_eq_true rfl) (Nat.le_of_ble_eq_true rfl) dX5_takeNumber_10 (.head _) (by decide) rfl (by decide)) rfl dX5_takeNumber_13 (.head _))
 (okRet (p1 := 15) (τ := 0) (ok_iconst dX5_takeNumber_14 (.head _) (irn (by decide) (by decide))) rfl (by decide) dX5_takeNumber_15))) (fun t ht => okSkip ht))
 (okSeq (p1 := 28) (Γ1 := [(0, 2), (1, 0), (2, 0), (3, 0)]) (ok_istore_n (Γ' := [(0, 2), (1, 0), (2, 0), (3, 0)]) (p1 := 27) (τ := 0) (okCallV (p1 := 24) (okCons (p1 := 20) (okF (p1 := 17) (k := 0) (ok_aload_n dX5_takeNumber_16 (.head _) rfl (.head _)) ci_5 (by decide) kf_X5_21 dX5_takeNumber_17 (.head _) rfl rfl) (okCons (p1 := 24) (okF (p1 := 21) (k := 2) (ok_aload_n dX5_takeNumber_20 (.head _) rfl (.head _)) ci_5 (by decide) kf_X5_34 dX5_takeNumber_21 (.head _) rfl rfl) okNil)) MX10_numberOf cf_X10_numberOf ci_10 rfl kc_X10_numberOf km_X5_80 ki_X10_numberOf kv_X10_numberOf kn_X10 (Nat.le_of_ble_eq_true rfl) (Nat.le_of_ble_eq_true rfl) dX5_takeNumber_24 (.head _) (by decide) rfl (by decide)) t_0 dX5_takeNumber_27 rfl (by decide) (.head _) (by decide))
 (okSeq (p1 := 46) (Γ1 := [(0, 2), (1, 0), (2, 0), (3, 0)]) (okIf (Γ' := [(0, 2), (1, 0), (2, 0), (3, 0)]) (T := [38]) (F := [46]) (okOr (p1 := 33) (okCBt (p1 := 29) (p2 := 30) (τa := 0) (τb := 0) (ok_iload_n dX5_takeNumber_28 (.head _) rfl (.tail _ (.tail _ (.tail _ (.head _)))) t_0) (ok_iload_n dX5_takeNumber_29 (.head _) rfl (.tail _ (.head _)) t_0) (j_icmp_lt dX5_takeNumber_30 rfl) (.head _) (.head _)) (okCBf (p1 := 34) (p2 := 35) (τa := 0) (τb := 0) (ok_iload_n dX5_takeNumber_33 (.head _) rfl (.tail _ (.tail _ (.tail _ (.head _)))) t_0) (ok_iload_n dX5_takeNumber_34 (.head _) rfl (.tail _ (.tail _ (.head _))) t_0) (j_icmp_le dX5_takeNumber_35 rfl) nq_gt (.head _) (.head _))) (one (okSeq (p1 := 44) (Γ1 := [(0, 2), (1, 0), (2, 0), (3, 0)]) (okDoP (p1 := 43) (τ := 3) (okCallV (p1 := 40) (okCons (p1 := 39) (ok_aload_n dX5_takeNumber_38 (.head _) rfl (.head _)) (okCons (p1 := 40) (ok_iconst dX5_takeNumber_39 (.head _) (irn (by decide) (by decide))) okNil)) MX5_fail cf_X5_fail ci_5 rfl kc_X5_fail km_X5_51 ki_X5_fail kv_X5_fail kn_X5 (Nat.le_of_ble_eq_true rfl) (Nat.le_of_ble_eq_true rfl) dX5_takeNumber_40 (.head _) (by decide) rfl (by decide)) rfl dX5_takeNumber_43 (.head _))
 (okRet (p1 := 45) (τ := 0) (ok_iconst dX5_takeNumber_44 (.head _) (irn (by decide) (by decide))) rfl (by decide) dX5_takeNumber_45))) (fun t ht => okSkip ht))
 (okSeq (p1 := 56) (Γ1 := [(0, 2), (1, 0), (2, 0), (3, 0)]) (okPutC (p1 := 47) (p2 := 52) (p3 := 53) (k := 2) (τ := 0) (τb := 0) (ok_aload_n dX5_takeNumber_46 (.head _) rfl (.head _)) dX5_takeNumber_47 dX5_takeNumber_48 (ok_iconst dX5_takeNumber_51 (.head _) (irn (by decide) (by decide))) (s_iadd dX5_takeNumber_52 (.head _)) rfl ci_5 (by decide) kf_X5_34 rfl (fun z _ => qfit_int z) dX5_takeNumber_53 (.head _) rfl)
 (okRet (p1 := 57) (τ := 0) (ok_iload_n dX5_takeNumber_56 (.head _) rfl (.tail _ (.tail _ (.tail _ (.head _)))) t_0) rfl (by decide) dX5_takeNumber_57)))))
def mX5_takeNumber : QM := qM [2, 0, 0] sX5_takeNumber
theorem MX5_takeNumber : MetY YX5_takeNumber yX5_takeNumber (some .int) [2, 0, 0] mX5_takeNumber := metY_of rfl (by decide +kernel) (.inl ⟨rfl, rfl⟩) (by decide) oX5_takeNumber

abbrev YX5_archiveLine : YT := (RX5, cX5_archiveLine, 2, 4, 86, 3)
theorem cf_X5_archiveLine : CF yX5_archiveLine 0 := ⟨by decide +kernel, by decide +kernel, by decide +kernel⟩
def sX5_archiveLine : QT :=
 (sSeq (sIf (cB qge (eF 6 2 (eF 5 1 (eV 0))) (eI 4)) (sRet (eCallV 5 mX5_fail [(eV 0), (eI 4)])) sSkip)
 (sSeq (sSet 1 (eA 30 (eF 6 4 (eF 5 1 (eV 0))) (eF 6 2 (eF 5 1 (eV 0)))))
 (sSeq (sPutC 5 2 (eV 0) iA (eI 1))
 (sSeq (sPut 0 0 (eV 1) (eCallV 5 mX5_howHere [(eV 0)]))
 (sSeq (sIf (cB qeq (eF 0 0 (eV 1)) (eI (-1))) (sRet (eCallV 5 mX5_fail [(eV 0), (eI 1)])) sSkip)
 (sSeq (sPutC 5 2 (eV 0) iA (eI 1))
 (sSeq (sPut 0 1 (eV 1) (eCallV 5 mX5_takeNumber [(eV 0), (eI 1), (eI 12)]))
 (sSeq (sIf (cOr (cB qeq (eF 0 1 (eV 1)) (eI (-1))) (cNot (cE (eCallV 5 mX5_take [(eV 0), (eI 267)])))) (sRet (eI 0)) sSkip)
 (sSeq (sPut 0 2 (eV 1) (eCallV 5 mX5_takeNumber [(eV 0), (eI 1), (eI 30)]))
 (sSeq (sIf (cOr (cB qeq (eF 0 2 (eV 1)) (eI (-1))) (cNot (cE (eCallV 5 mX5_take [(eV 0), (eI 268)])))) (sRet (eI 0)) sSkip)
 (sSeq (sPut 0 3 (eV 1) (eCallV 5 mX5_takeNumber [(eV 0), (eI 0), (eI 9)]))
 (sSeq (sIf (cOr (cB qeq (eF 0 3 (eV 1)) (eI (-1))) (cNot (cE (eCallV 5 mX5_take [(eV 0), (eI 59)])))) (sRet (eI 0)) sSkip)
 (sSeq (sPutC 6 2 (eF 5 1 (eV 0)) iA (eI 1))
 (sRet (eI 1)))))))))))))))
set_option maxRecDepth 100000 in
theorem oX5_archiveLine : OkS YX5_archiveLine [(0, 2)] [(0, 2), (1, 2)] 0 [] [] [] [] [] sX5_archiveLine := by
  unfold sX5_archiveLine
  exact (okSeq (p1 := 17) (Γ1 := [(0, 2)]) (okIf (Γ' := [(0, 2)]) (T := [11]) (F := [17]) (okCBf (p1 := 7) (p2 := 8) (τa := 0) (τb := 0) (okF (p1 := 4) (k := 2) (okF (p1 := 1) (k := 1) (ok_aload_n dX5_archiveLine_0 (.head _) rfl (.head _)) ci_5 (by decide) kf_X5_25 dX5_archiveLine_1 (.head _) rfl rfl) ci_6 (by decide) kf_X5_140 dX5_archiveLine_4 (.head _) rfl rfl) (ok_iconst dX5_archiveLine_7 (.head _) (irn (by decide) (by decide))) (j_icmp_lt dX5_archiveLine_8 rfl) nq_ge (.head _) (.head _)) (one (okRet (p1 := 16) (τ := 3) (okCallV (p1 := 13) (okCons (p1 := 12) (ok_aload_n dX5_archiveLine_11 (.head _) rfl (.head _)) (okCons (p1 := 13) (ok_iconst dX5_archiveLine_12 (.head _) (irn (by decide) (by decide))) okNil)) MX5_fail cf_X5_fail ci_5 rfl kc_X5_fail km_X5_51 ki_X5_fail kv_X5_fail kn_X5 (Nat.le_of_ble_eq_true rfl) (Nat.le_of_ble_eq_true rfl) dX5_archiveLine_13 (.head _) (by decide) rfl (by decide)) rfl (by decide) dX5_archiveLine_16)) (fun t ht => okSkip ht))
 (okSeq (p1 := 33) (Γ1 := [(0, 2), (1, 2)]) (ok_astore_n (Γ' := [(0, 2), (1, 2)]) (p1 := 32) (ok_aaload (C := RX0) (by decide) rfl rfl (p1 := 24) (p2 := 31) (okF (p1 := 21) (k := 4) (okF (p1 := 18) (k := 1) (ok_aload_n dX5_archiveLine_17 (.head _) rfl (.head _)) ci_5 (by decide) kf_X5_25 dX5_archiveLine_18 (.head _) rfl rfl) ci_6 (by decide) kf_X5_143 dX5_archiveLine_21 (.head _) rfl rfl) (okF (p1 := 28) (k := 2) (okF (p1 := 25) (k := 1) (ok_aload_n dX5_archiveLine_24 (.head _) rfl (.head _)) ci_5 (by decide) kf_X5_25 dX5_archiveLine_25 (.head _) rfl rfl) ci_6 (by decide) kf_X5_140 dX5_archiveLine_28 (.head _) rfl rfl) dX5_archiveLine_31 (.head _)) dX5_archiveLine_32 rfl (by decide) (.head _) (by decide))
 (okSeq (p1 := 43) (Γ1 := [(0, 2), (1, 2)]) (okPutC (p1 := 34) (p2 := 39) (p3 := 40) (k := 2) (τ := 0) (τb := 0) (ok_aload_n dX5_archiveLine_33 (.head _) rfl (.head _)) dX5_archiveLine_34 dX5_archiveLine_35 (ok_iconst dX5_archiveLine_38 (.head _) (irn (by decide) (by decide))) (s_iadd dX5_archiveLine_39 (.head _)) rfl ci_5 (by decide) kf_X5_34 rfl (fun z _ => qfit_int z) dX5_archiveLine_40 (.head _) rfl)
 (okSeq (p1 := 51) (Γ1 := [(0, 2), (1, 2)]) (okPut (p1 := 44) (p2 := 48) (k := 0) (ok_aload_n dX5_archiveLine_43 (.head _) rfl (.tail _ (.head _))) (okCallV (p1 := 45) (okCons (p1 := 45) (ok_aload_n dX5_archiveLine_44 (.head _) rfl (.head _)) okNil) MX5_howHere cf_X5_howHere ci_5 rfl kc_X5_howHere km_X5_147 ki_X5_howHere kv_X5_howHere kn_X5 (Nat.le_of_ble_eq_true rfl) (Nat.le_of_ble_eq_true rfl) dX5_archiveLine_45 (.head _) (by decide) rfl (by decide)) rfl ci_0 (by decide) kf_X5_150 rfl (fun z _ => qfit_int z) dX5_archiveLine_48 (.head _) rfl)
 (okSeq (p1 := 65) (Γ1 := [(0, 2), (1, 2)]) (okIf (Γ' := [(0, 2), (1, 2)]) (T := [59]) (F := [65]) (okCBf (p1 := 55) (p2 := 56) (τa := 0) (τb := 0) (okF (p1 := 52) (k := 0) (ok_aload_n dX5_archiveLine_51 (.head _) rfl (.tail _ (.head _))) ci_0 (by decide) kf_X5_150 dX5_archiveLine_52 (.head _) rfl rfl) (ok_iconst dX5_archiveLine_55 (.head _) (irn (by decide) (by decide))) (j_icmp_ne dX5_archiveLine_56 rfl) nq_eq (.head _) (.head _)) (one (okRet (p1 := 64) (τ := 3) (okCallV (p1 := 61) (okCons (p1 := 60) (ok_aload_n dX5_archiveLine_59 (.head _) rfl (.head _)) (okCons (p1 := 61) (ok_iconst dX5_archiveLine_60 (.head _) (irn (by decide) (by decide))) okNil)) MX5_fail cf_X5_fail ci_5 rfl kc_X5_fail km_X5_51 ki_X5_fail kv_X5_fail kn_X5 (Nat.le_of_ble_eq_true rfl) (Nat.le_of_ble_eq_true rfl) dX5_archiveLine_61 (.head _) (by decide) rfl (by decide)) rfl (by decide) dX5_archiveLine_64)) (fun t ht => okSkip ht))
 (okSeq (p1 := 75) (Γ1 := [(0, 2), (1, 2)]) (okPutC (p1 := 66) (p2 := 71) (p3 := 72) (k := 2) (τ := 0) (τb := 0) (ok_aload_n dX5_archiveLine_65 (.head _) rfl (.head _)) dX5_archiveLine_66 dX5_archiveLine_67 (ok_iconst dX5_archiveLine_70 (.head _) (irn (by decide) (by decide))) (s_iadd dX5_archiveLine_71 (.head _)) rfl ci_5 (by decide) kf_X5_34 rfl (fun z _ => qfit_int z) dX5_archiveLine_72 (.head _) rfl)
 (okSeq (p1 := 86) (Γ1 := [(0, 2), (1, 2)]) (okPut (p1 := 76) (p2 := 83) (k := 1) (ok_aload_n dX5_archiveLine_75 (.head _) rfl (.tail _ (.head _))) (okCallV (p1 := 80) (okCons (p1 := 77) (ok_aload_n dX5_archiveLine_76 (.head _) rfl (.head _)) (okCons (p1 := 78) (ok_iconst dX5_archiveLine_77 (.head _) (irn (by decide) (by decide))) (okCons (p1 := 80) (ok_bipush dX5_archiveLine_78 (.head _) (irn4 (by decide) (by decide))) okNil))) MX5_takeNumber cf_X5_takeNumber ci_5 rfl kc_X5_takeNumber km_X5_83 ki_X5_takeNumber kv_X5_takeNumber kn_X5 (Nat.le_of_ble_eq_true rfl) (Nat.le_of_ble_eq_true rfl) dX5_archiveLine_80 (.head _) (by decide) rfl (by decide)) rfl ci_0 (by decide) kf_X5_155 rfl (fun z _ => qfit_int z) dX5_archiveLine_83 (.head _) rfl)
 (okSeq (p1 := 106) (Γ1 := [(0, 2), (1, 2)]) (okIf (Γ' := [(0, 2), (1, 2)]) (T := [104]) (F := [106]) (okOr (p1 := 94) (okCBt (p1 := 90) (p2 := 91) (τa := 0) (τb := 0) (okF (p1 := 87) (k := 1) (ok_aload_n dX5_archiveLine_86 (.head _) rfl (.tail _ (.head _))) ci_0 (by decide) kf_X5_155 dX5_archiveLine_87 (.head _) rfl rfl) (ok_iconst dX5_archiveLine_90 (.head _) (irn (by decide) (by decide))) (j_icmp_eq dX5_archiveLine_91 rfl) (.head _) (.head _)) (okNot (okCEt (p1 := 101) (okI (τ := 3) (okCallV (p1 := 98) (okCons (p1 := 95) (ok_aload_n dX5_archiveLine_94 (.head _) rfl (.head _)) (okCons (p1 := 98) (ok_sipush dX5_archiveLine_95 (.head _) ⟨by decide, by decide⟩) okNil)) MX5_take cf_X5_take ci_5 rfl kc_X5_take km_X5_90 ki_X5_take kv_X5_take kn_X5 (Nat.le_of_ble_eq_true rfl) (Nat.le_of_ble_eq_true rfl) dX5_archiveLine_98 (.head _) (by decide) rfl (by decide)) t_3) (j_if_ne dX5_archiveLine_101 rfl) (.head _) (.head _)))) (one (okRet (p1 := 105) (τ := 3) (ok_zconst dX5_archiveLine_104 (.head _) ⟨by decide, by decide⟩) rfl (by decide) dX5_archiveLine_105)) (fun t ht => okSkip ht))
 (okSeq (p1 := 117) (Γ1 := [(0, 2), (1, 2)]) (okPut (p1 := 107) (p2 := 114) (k := 2) (ok_aload_n dX5_archiveLine_106 (.head _) rfl (.tail _ (.head _))) (okCallV (p1 := 111) (okCons (p1 := 108) (ok_aload_n dX5_archiveLine_107 (.head _) rfl (.head _)) (okCons (p1 := 109) (ok_iconst dX5_archiveLine_108 (.head _) (irn (by decide) (by decide))) (okCons (p1 := 111) (ok_bipush dX5_archiveLine_109 (.head _) (irn4 (by decide) (by decide))) okNil))) MX5_takeNumber cf_X5_takeNumber ci_5 rfl kc_X5_takeNumber km_X5_83 ki_X5_takeNumber kv_X5_takeNumber kn_X5 (Nat.le_of_ble_eq_true rfl) (Nat.le_of_ble_eq_true rfl) dX5_archiveLine_111 (.head _) (by decide) rfl (by decide)) rfl ci_0 (by decide) kf_X5_158 rfl (fun z _ => qfit_int z) dX5_archiveLine_114 (.head _) rfl)
 (okSeq (p1 := 137) (Γ1 := [(0, 2), (1, 2)]) (okIf (Γ' := [(0, 2), (1, 2)]) (T := [135]) (F := [137]) (okOr (p1 := 125) (okCBt (p1 := 121) (p2 := 122) (τa := 0) (τb := 0) (okF (p1 := 118) (k := 2) (ok_aload_n dX5_archiveLine_117 (.head _) rfl (.tail _ (.head _))) ci_0 (by decide) kf_X5_158 dX5_archiveLine_118 (.head _) rfl rfl) (ok_iconst dX5_archiveLine_121 (.head _) (irn (by decide) (by decide))) (j_icmp_eq dX5_archiveLine_122 rfl) (.head _) (.head _)) (okNot (okCEt (p1 := 132) (okI (τ := 3) (okCallV (p1 := 129) (okCons (p1 := 126) (ok_aload_n dX5_archiveLine_125 (.head _) rfl (.head _)) (okCons (p1 := 129) (ok_sipush dX5_archiveLine_126 (.head _) ⟨by decide, by decide⟩) okNil)) MX5_take cf_X5_take ci_5 rfl kc_X5_take km_X5_90 ki_X5_take kv_X5_take kn_X5 (Nat.le_of_ble_eq_true rfl) (Nat.le_of_ble_eq_true rfl) dX5_archiveLine_129 (.head _) (by decide) rfl (by decide)) t_3) (j_if_ne dX5_archiveLine_132 rfl) (.head _) (.head _)))) (one (okRet (p1 := 136) (τ := 3) (ok_zconst dX5_archiveLine_135 (.head _) ⟨by decide, by decide⟩) rfl (by decide) dX5_archiveLine_136)) (fun t ht => okSkip ht))
 (okSeq (p1 := 148) (Γ1 := [(0, 2), (1, 2)]) (okPut (p1 := 138) (p2 := 145) (k := 3) (ok_aload_n dX5_archiveLine_137 (.head _) rfl (.tail _ (.head _))) (okCallV (p1 := 142) (okCons (p1 := 139) (ok_aload_n dX5_archiveLine_138 (.head _) rfl (.head _)) (okCons (p1 := 140) (ok_iconst dX5_archiveLine_139 (.head _) (irn (by decide) (by decide))) (okCons (p1 := 142) (ok_bipush dX5_archiveLine_140 (.head _) (irn4 (by decide) (by decide))) okNil))) MX5_takeNumber cf_X5_takeNumber ci_5 rfl kc_X5_takeNumber km_X5_83 ki_X5_takeNumber kv_X5_takeNumber kn_X5 (Nat.le_of_ble_eq_true rfl) (Nat.le_of_ble_eq_true rfl) dX5_archiveLine_142 (.head _) (by decide) rfl (by decide)) rfl ci_0 (by decide) kf_X5_161 rfl (fun z _ => qfit_int z) dX5_archiveLine_145 (.head _) rfl)
 (okSeq (p1 := 167) (Γ1 := [(0, 2), (1, 2)]) (okIf (Γ' := [(0, 2), (1, 2)]) (T := [165]) (F := [167]) (okOr (p1 := 156) (okCBt (p1 := 152) (p2 := 153) (τa := 0) (τb := 0) (okF (p1 := 149) (k := 3) (ok_aload_n dX5_archiveLine_148 (.head _) rfl (.tail _ (.head _))) ci_0 (by decide) kf_X5_161 dX5_archiveLine_149 (.head _) rfl rfl) (ok_iconst dX5_archiveLine_152 (.head _) (irn (by decide) (by decide))) (j_icmp_eq dX5_archiveLine_153 rfl) (.head _) (.head _)) (okNot (okCEt (p1 := 162) (okI (τ := 3) (okCallV (p1 := 159) (okCons (p1 := 157) (ok_aload_n dX5_archiveLine_156 (.head _) rfl (.head _)) (okCons (p1 := 159) (ok_bipush dX5_archiveLine_157 (.head _) (irn4 (by decide) (by decide))) okNil)) MX5_take cf_X5_take ci_5 rfl kc_X5_take km_X5_90 ki_X5_take kv_X5_take kn_X5 (Nat.le_of_ble_eq_true rfl) (Nat.le_of_ble_eq_true rfl) dX5_archiveLine_159 (.head _) (by decide) rfl (by decide)) t_3) (j_if_ne dX5_archiveLine_162 rfl) (.head _) (.head _)))) (one (okRet (p1 := 166) (τ := 3) (ok_zconst dX5_archiveLine_165 (.head _) ⟨by decide, by decide⟩) rfl (by decide) dX5_archiveLine_166)) (fun t ht => okSkip ht))
 (okSeq (p1 := 180) (Γ1 := [(0, 2), (1, 2)]) (okPutC (p1 := 171) (p2 := 176) (p3 := 177) (k := 2) (τ := 0) (τb := 0) (okF (p1 := 168) (k := 1) (ok_aload_n dX5_archiveLine_167 (.head _) rfl (.head _)) ci_5 (by decide) kf_X5_25 dX5_archiveLine_168 (.head _) rfl rfl) dX5_archiveLine_171 dX5_archiveLine_172 (ok_iconst dX5_archiveLine_175 (.head _) (irn (by decide) (by decide))) (s_iadd dX5_archiveLine_176 (.head _)) rfl ci_6 (by decide) kf_X5_140 rfl (fun z _ => qfit_int z) dX5_archiveLine_177 (.head _) rfl)
 (okRet (p1 := 181) (τ := 3) (ok_zconst dX5_archiveLine_180 (.head _) ⟨by decide, by decide⟩) rfl (by decide) dX5_archiveLine_181))))))))))))))
def mX5_archiveLine : QM := qM [2] sX5_archiveLine
theorem MX5_archiveLine : MetY YX5_archiveLine yX5_archiveLine (some .boolean) [2] mX5_archiveLine := metY_of rfl (by decide +kernel) (.inr (.inl ⟨rfl, rfl⟩)) (by decide) oX5_archiveLine

abbrev YX10_sameWord : YT := (RX10, cX10_sameWord, 5, 1, 21, 3)
theorem cf_X10_sameWord : CF yX10_sameWord 2 := ⟨by decide +kernel, by decide +kernel, by decide +kernel⟩
def cX10_sameWord_1 : QC :=
 (cB qlt (eV 4) (eV 3))
def bX10_sameWord_1 : QT :=
 (sIf (cB qne (eA 23 (eF 10 0 (eV 0)) (e2 iA (eA 20 (eF 10 3 (eV 0)) (eV 1)) (eV 4))) (eA 23 (eF 10 0 (eV 0)) (e2 iA (eA 20 (eF 10 3 (eV 0)) (eV 2)) (eV 4)))) (sRet (eI 0)) sSkip)
def uX10_sameWord_1 : QT :=
 (sInc 4 1)
set_option maxRecDepth 100000 in
theorem obX10_sameWord_1 : OkS YX10_sameWord [(0, 2), (1, 0), (2, 0), (3, 0), (4, 0)] [(0, 2), (1, 0), (2, 0), (3, 0), (4, 0)] 60 [93] [(0, 2), (1, 0), (2, 0), (3, 0), (4, 0)] [99] [(0, 2), (1, 0), (2, 0), (3, 0), (4, 0)] [93] bX10_sameWord_1 := by
  unfold bX10_sameWord_1
  exact (okIf (Γ' := [(0, 2), (1, 0), (2, 0), (3, 0), (4, 0)]) (T := [91]) (F := [93]) (okCBf (p1 := 74) (p2 := 88) (τa := 0) (τb := 0) (okI (τ := 5) (ok_caload (p1 := 64) (p2 := 73) (okF (p1 := 61) (k := 0) (ok_aload_n dX10_sameWord_60 (.head _) rfl (.head _)) ci_10 (by decide) kf_X10_9 dX10_sameWord_61 (.head _) rfl rfl) (okE2 (p1 := 70) (p2 := 72) (τa := 0) (τb := 0) (ok_iaload (.inl rfl) (p1 := 68) (p2 := 69) (okF (p1 := 65) (k := 3) (ok_aload_n dX10_sameWord_64 (.head _) rfl (.head _)) ci_10 (by decide) kf_X10_19 dX10_sameWord_65 (.head _) rfl rfl) (ok_iload_n dX10_sameWord_68 (.head _) rfl (.tail _ (.head _)) t_0) dX10_sameWord_69 (.head _)) (ok_iload dX10_sameWord_70 (.head _) (.tail _ (.tail _ (.tail _ (.tail _ (.head _))))) t_0) (s_iadd dX10_sameWord_72 (.head _))) dX10_sameWord_73 (.head _)) t_5) (okI (τ := 5) (ok_caload (p1 := 78) (p2 := 87) (okF (p1 := 75) (k := 0) (ok_aload_n dX10_sameWord_74 (.head _) rfl (.head _)) ci_10 (by decide) kf_X10_9 dX10_sameWord_75 (.head _) rfl rfl) (okE2 (p1 := 84) (p2 := 86) (τa := 0) (τb := 0) (ok_iaload (.inl rfl) (p1 := 82) (p2 := 83) (okF (p1 := 79) (k := 3) (ok_aload_n dX10_sameWord_78 (.head _) rfl (.head _)) ci_10 (by decide) kf_X10_19 dX10_sameWord_79 (.head _) rfl rfl) (ok_iload_n dX10_sameWord_82 (.head _) rfl (.tail _ (.tail _ (.head _))) t_0) dX10_sameWord_83 (.head _)) (ok_iload dX10_sameWord_84 (.head _) (.tail _ (.tail _ (.tail _ (.tail _ (.head _))))) t_0) (s_iadd dX10_sameWord_86 (.head _))) dX10_sameWord_87 (.head _)) t_5) (j_icmp_eq dX10_sameWord_88 rfl) nq_ne (.head _) (.head _)) (one (okRet (p1 := 92) (τ := 3) (ok_zconst dX10_sameWord_91 (.head _) ⟨by decide, by decide⟩) rfl (by decide) dX10_sameWord_92)) (fun t ht => okSkip ht))
set_option maxRecDepth 100000 in
theorem ocX10_sameWord_1 : OkC YX10_sameWord [(0, 2), (1, 0), (2, 0), (3, 0), (4, 0)] 0 54 [60] [99] cX10_sameWord_1 := by
  unfold cX10_sameWord_1
  exact (okCBf (p1 := 56) (p2 := 57) (τa := 0) (τb := 0) (ok_iload dX10_sameWord_54 (.head _) (.tail _ (.tail _ (.tail _ (.tail _ (.head _))))) t_0) (ok_iload_n dX10_sameWord_56 (.head _) rfl (.tail _ (.tail _ (.tail _ (.head _)))) t_0) (j_icmp_ge dX10_sameWord_57 rfl) nq_lt (.head _) (.head _))
set_option maxRecDepth 100000 in
theorem ouX10_sameWord_1 : ∀ t ∈ ([93] : List Nat), OkS YX10_sameWord [(0, 2), (1, 0), (2, 0), (3, 0), (4, 0)] [(0, 2), (1, 0), (2, 0), (3, 0), (4, 0)] t [54] [] [] [] [] uX10_sameWord_1 := by
  unfold uX10_sameWord_1
  exact (one (okEnd (p1 := 96) (tg := 54) (okInc (.tail _ (.tail _ (.tail _ (.tail _ (.head _))))) dX10_sameWord_93 (by decide) (.head _) (by decide)) dX10_sameWord_96 rfl (.head _)))
def sX10_sameWord : QT :=
 (sSeq (sIf (cOr (cNot (cE (eCallV 10 mX10_isToken [(eV 0), (eV 1)]))) (cNot (cE (eCallV 10 mX10_isToken [(eV 0), (eV 2)])))) (sRet (eI 0)) sSkip)
 (sSeq (sSet 3 (e2 iS (eA 20 (eF 10 4 (eV 0)) (eV 1)) (eA 20 (eF 10 3 (eV 0)) (eV 1))))
 (sSeq (sIf (cB qne (eV 3) (e2 iS (eA 20 (eF 10 4 (eV 0)) (eV 2)) (eA 20 (eF 10 3 (eV 0)) (eV 2)))) (sRet (eI 0)) sSkip)
 (sSeq (sSeq (sSet 4 (eI 0))
 (sWhile cX10_sameWord_1 bX10_sameWord_1 uX10_sameWord_1))
 (sRet (eI 1))))))
set_option maxRecDepth 100000 in
theorem oX10_sameWord : OkS YX10_sameWord [(0, 2), (1, 0), (2, 0)] [(0, 2), (1, 0), (2, 0), (3, 0)] 0 [] [] [] [] [] sX10_sameWord := by
  unfold sX10_sameWord
  exact (okSeq (p1 := 18) (Γ1 := [(0, 2), (1, 0), (2, 0)]) (okIf (Γ' := [(0, 2), (1, 0), (2, 0)]) (T := [16]) (F := [18]) (okOr (p1 := 8) (okNot (okCEf (p1 := 5) (okI (τ := 3) (okCallV (p1 := 2) (okCons (p1 := 1) (ok_aload_n dX10_sameWord_0 (.head _) rfl (.head _)) (okCons (p1 := 2) (ok_iload_n dX10_sameWord_1 (.head _) rfl (.tail _ (.head _)) t_0) okNil)) MX10_isToken cf_X10_isToken ci_10 rfl kc_X10_isToken km_X10_68 ki_X10_isToken kv_X10_isToken kn_X10 (Nat.le_of_ble_eq_true rfl) (Nat.le_of_ble_eq_true rfl) dX10_sameWord_2 (.head _) (by decide) rfl (by decide)) t_3) (j_if_eq dX10_sameWord_5 rfl) (.head _) (.head _))) (okNot (okCEt (p1 := 13) (okI (τ := 3) (okCallV (p1 := 10) (okCons (p1 := 9) (ok_aload_n dX10_sameWord_8 (.head _) rfl (.head _)) (okCons (p1 := 10) (ok_iload_n dX10_sameWord_9 (.head _) rfl (.tail _ (.tail _ (.head _))) t_0) okNil)) MX10_isToken cf_X10_isToken ci_10 rfl kc_X10_isToken km_X10_68 ki_X10_isToken kv_X10_isToken kn_X10 (Nat.le_of_ble_eq_true rfl) (Nat.le_of_ble_eq_true rfl) dX10_sameWord_10 (.head _) (by decide) rfl (by decide)) t_3) (j_if_ne dX10_sameWord_13 rfl) (.head _) (.head _)))) (one (okRet (p1 := 17) (τ := 3) (ok_zconst dX10_sameWord_16 (.head _) ⟨by decide, by decide⟩) rfl (by decide) dX10_sameWord_17)) (fun t ht => okSkip ht))
 (okSeq (p1 := 32) (Γ1 := [(0, 2), (1, 0), (2, 0), (3, 0)]) (ok_istore_n (Γ' := [(0, 2), (1, 0), (2, 0), (3, 0)]) (p1 := 31) (τ := 0) (okE2 (p1 := 24) (p2 := 30) (τa := 0) (τb := 0) (ok_iaload (.inl rfl) (p1 := 22) (p2 := 23) (okF (p1 := 19) (k := 4) (ok_aload_n dX10_sameWord_18 (.head _) rfl (.head _)) ci_10 (by decide) kf_X10_22 dX10_sameWord_19 (.head _) rfl rfl) (ok_iload_n dX10_sameWord_22 (.head _) rfl (.tail _ (.head _)) t_0) dX10_sameWord_23 (.head _)) (ok_iaload (.inl rfl) (p1 := 28) (p2 := 29) (okF (p1 := 25) (k := 3) (ok_aload_n dX10_sameWord_24 (.head _) rfl (.head _)) ci_10 (by decide) kf_X10_19 dX10_sameWord_25 (.head _) rfl rfl) (ok_iload_n dX10_sameWord_28 (.head _) rfl (.tail _ (.head _)) t_0) dX10_sameWord_29 (.head _)) (s_isub dX10_sameWord_30 (.head _))) t_0 dX10_sameWord_31 rfl (by decide) (.head _) (by decide))
 (okSeq (p1 := 51) (Γ1 := [(0, 2), (1, 0), (2, 0), (3, 0)]) (okIf (Γ' := [(0, 2), (1, 0), (2, 0), (3, 0)]) (T := [49]) (F := [51]) (okCBf (p1 := 33) (p2 := 46) (τa := 0) (τb := 0) (ok_iload_n dX10_sameWord_32 (.head _) rfl (.tail _ (.tail _ (.tail _ (.head _)))) t_0) (okE2 (p1 := 39) (p2 := 45) (τa := 0) (τb := 0) (ok_iaload (.inl rfl) (p1 := 37) (p2 := 38) (okF (p1 := 34) (k := 4) (ok_aload_n dX10_sameWord_33 (.head _) rfl (.head _)) ci_10 (by decide) kf_X10_22 dX10_sameWord_34 (.head _) rfl rfl) (ok_iload_n dX10_sameWord_37 (.head _) rfl (.tail _ (.tail _ (.head _))) t_0) dX10_sameWord_38 (.head _)) (ok_iaload (.inl rfl) (p1 := 43) (p2 := 44) (okF (p1 := 40) (k := 3) (ok_aload_n dX10_sameWord_39 (.head _) rfl (.head _)) ci_10 (by decide) kf_X10_19 dX10_sameWord_40 (.head _) rfl rfl) (ok_iload_n dX10_sameWord_43 (.head _) rfl (.tail _ (.tail _ (.head _))) t_0) dX10_sameWord_44 (.head _)) (s_isub dX10_sameWord_45 (.head _))) (j_icmp_eq dX10_sameWord_46 rfl) nq_ne (.head _) (.head _)) (one (okRet (p1 := 50) (τ := 3) (ok_zconst dX10_sameWord_49 (.head _) ⟨by decide, by decide⟩) rfl (by decide) dX10_sameWord_50)) (fun t ht => okSkip ht))
 (okSeq (p1 := 99) (Γ1 := [(0, 2), (1, 0), (2, 0), (3, 0)]) (okWeak (Γ1 := [(0, 2), (1, 0), (2, 0), (3, 0), (4, 0)]) (okSeq (p1 := 54) (Γ1 := [(0, 2), (1, 0), (2, 0), (3, 0), (4, 0)]) (ok_istore (Γ' := [(0, 2), (1, 0), (2, 0), (3, 0), (4, 0)]) (p1 := 52) (τ := 0) (ok_iconst dX10_sameWord_51 (.head _) (irn (by decide) (by decide))) t_0 dX10_sameWord_52 (by decide) (.head _) (by decide))
 (okWhile (T := [60]) (F := [99]) (Eb := [93]) ocX10_sameWord_1 (fun _ h => h) (one obX10_sameWord_1) ouX10_sameWord_1)) (by decide))
 (okRet (p1 := 100) (τ := 3) (ok_zconst dX10_sameWord_99 (.head _) ⟨by decide, by decide⟩) rfl (by decide) dX10_sameWord_100)))))
def mX10_sameWord : QM := qM [2, 0, 0] sX10_sameWord
theorem MX10_sameWord : MetY YX10_sameWord yX10_sameWord (some .boolean) [2, 0, 0] mX10_sameWord := metY_of rfl (by decide +kernel) (.inr (.inl ⟨rfl, rfl⟩)) (by decide) oX10_sameWord

abbrev YX5_bearerHere : YT := (RX5, cX5_bearerHere, 2, 2, 45, 0)
theorem cf_X5_bearerHere : CF yX5_bearerHere 0 := ⟨by decide +kernel, by decide +kernel, by decide +kernel⟩
def cX5_bearerHere_1 : QC :=
 (cB qlt (eV 1) (eF 5 7 (eV 0)))
def bX5_bearerHere_1 : QT :=
 (sIf (cE (eCallV 10 mX10_sameWord [(eF 5 0 (eV 0)), (eA 20 (eF 5 5 (eV 0)) (eV 1)), (eF 5 2 (eV 0))])) (sRet (eA 20 (eF 5 6 (eV 0)) (eV 1))) sSkip)
def uX5_bearerHere_1 : QT :=
 (sInc 1 1)
set_option maxRecDepth 100000 in
theorem obX5_bearerHere_1 : OkS YX5_bearerHere [(0, 2), (1, 0)] [(0, 2), (1, 0)] 10 [37] [(0, 2), (1, 0)] [43] [(0, 2), (1, 0)] [37] bX5_bearerHere_1 := by
  unfold bX5_bearerHere_1
  exact (okIf (Γ' := [(0, 2), (1, 0)]) (T := [30]) (F := [37]) (okCEf (p1 := 27) (okI (τ := 3) (okCallV (p1 := 24) (okCons (p1 := 14) (okF (p1 := 11) (k := 0) (ok_aload_n dX5_bearerHere_10 (.head _) rfl (.head _)) ci_5 (by decide) kf_X5_21 dX5_bearerHere_11 (.head _) rfl rfl) (okCons (p1 := 20) (ok_iaload (.inl rfl) (p1 := 18) (p2 := 19) (okF (p1 := 15) (k := 5) (ok_aload_n dX5_bearerHere_14 (.head _) rfl (.head _)) ci_5 (by decide) kf_X5_11 dX5_bearerHere_15 (.head _) rfl rfl) (ok_iload_n dX5_bearerHere_18 (.head _) rfl (.tail _ (.head _)) t_0) dX5_bearerHere_19 (.head _)) (okCons (p1 := 24) (okF (p1 := 21) (k := 2) (ok_aload_n dX5_bearerHere_20 (.head _) rfl (.head _)) ci_5 (by decide) kf_X5_34 dX5_bearerHere_21 (.head _) rfl rfl) okNil))) MX10_sameWord cf_X10_sameWord ci_10 rfl kc_X10_sameWord km_X5_200 ki_X10_sameWord kv_X10_sameWord kn_X10 (Nat.le_of_ble_eq_true rfl) (Nat.le_of_ble_eq_true rfl) dX5_bearerHere_24 (.head _) (by decide) rfl (by decide)) t_3) (j_if_eq dX5_bearerHere_27 rfl) (.head _) (.head _)) (one (okRet (p1 := 36) (τ := 0) (ok_iaload (.inl rfl) (p1 := 34) (p2 := 35) (okF (p1 := 31) (k := 6) (ok_aload_n dX5_bearerHere_30 (.head _) rfl (.head _)) ci_5 (by decide) kf_X5_15 dX5_bearerHere_31 (.head _) rfl rfl) (ok_iload_n dX5_bearerHere_34 (.head _) rfl (.tail _ (.head _)) t_0) dX5_bearerHere_35 (.head _)) rfl (by decide) dX5_bearerHere_36)) (fun t ht => okSkip ht))
set_option maxRecDepth 100000 in
theorem ocX5_bearerHere_1 : OkC YX5_bearerHere [(0, 2), (1, 0)] 0 2 [10] [43] cX5_bearerHere_1 := by
  unfold cX5_bearerHere_1
  exact (okCBf (p1 := 3) (p2 := 7) (τa := 0) (τb := 0) (ok_iload_n dX5_bearerHere_2 (.head _) rfl (.tail _ (.head _)) t_0) (okF (p1 := 4) (k := 7) (ok_aload_n dX5_bearerHere_3 (.head _) rfl (.head _)) ci_5 (by decide) kf_X5_38 dX5_bearerHere_4 (.head _) rfl rfl) (j_icmp_ge dX5_bearerHere_7 rfl) nq_lt (.head _) (.head _))
set_option maxRecDepth 100000 in
theorem ouX5_bearerHere_1 : ∀ t ∈ ([37] : List Nat), OkS YX5_bearerHere [(0, 2), (1, 0)] [(0, 2), (1, 0)] t [2] [] [] [] [] uX5_bearerHere_1 := by
  unfold uX5_bearerHere_1
  exact (one (okEnd (p1 := 40) (tg := 2) (okInc (.tail _ (.head _)) dX5_bearerHere_37 (by decide) (.head _) (by decide)) dX5_bearerHere_40 rfl (.head _)))
def sX5_bearerHere : QT :=
 (sSeq (sSeq (sSet 1 (eI 0))
 (sWhile cX5_bearerHere_1 bX5_bearerHere_1 uX5_bearerHere_1))
 (sRet (eI (-1))))
set_option maxRecDepth 100000 in
theorem oX5_bearerHere : OkS YX5_bearerHere [(0, 2)] [(0, 2)] 0 [] [] [] [] [] sX5_bearerHere := by
  unfold sX5_bearerHere
  exact (okSeq (p1 := 43) (Γ1 := [(0, 2)]) (okWeak (Γ1 := [(0, 2), (1, 0)]) (okSeq (p1 := 2) (Γ1 := [(0, 2), (1, 0)]) (ok_istore_n (Γ' := [(0, 2), (1, 0)]) (p1 := 1) (τ := 0) (ok_iconst dX5_bearerHere_0 (.head _) (irn (by decide) (by decide))) t_0 dX5_bearerHere_1 rfl (by decide) (.head _) (by decide))
 (okWhile (T := [10]) (F := [43]) (Eb := [37]) ocX5_bearerHere_1 (fun _ h => h) (one obX5_bearerHere_1) ouX5_bearerHere_1)) (by decide))
 (okRet (p1 := 44) (τ := 0) (ok_iconst dX5_bearerHere_43 (.head _) (irn (by decide) (by decide))) rfl (by decide) dX5_bearerHere_44))
def mX5_bearerHere : QM := qM [2] sX5_bearerHere
theorem MX5_bearerHere : MetY YX5_bearerHere yX5_bearerHere (some .int) [2] mX5_bearerHere := metY_of rfl (by decide +kernel) (.inl ⟨rfl, rfl⟩) (by decide) oX5_bearerHere

abbrev YX5_forecastNumbers : YT := (RX5, cX5_forecastNumbers, 2, 4, 86, 3)
theorem cf_X5_forecastNumbers : CF yX5_forecastNumbers 1 := ⟨by decide +kernel, by decide +kernel, by decide +kernel⟩
def sX5_forecastNumbers : QT :=
 (sSeq (sPut 2 6 (eV 1) (eCallV 5 mX5_takeNumber [(eV 0), (eI 2), (eI 24)]))
 (sSeq (sIf (cOr (cB qeq (eF 2 6 (eV 1)) (eI (-1))) (cNot (cE (eCallV 5 mX5_take [(eV 0), (eI 267)])))) (sRet (eI 0)) sSkip)
 (sSeq (sPut 2 7 (eV 1) (eCallV 5 mX5_takeNumber [(eV 0), (eI 0), (eI 16)]))
 (sSeq (sIf (cB qeq (eF 2 7 (eV 1)) (eI (-1))) (sRet (eI 0)) sSkip)
 (sSeq (sPut 2 8 (eV 1) (eCallV 5 mX5_takeNumber [(eV 0), (eI 0), (eI 16)]))
 (sSeq (sIf (cB qeq (eF 2 8 (eV 1)) (eI (-1))) (sRet (eI 0)) sSkip)
 (sSeq (sPut 2 9 (eV 1) (eCallV 5 mX5_takeNumber [(eV 0), (eI 0), (eI 16)]))
 (sSeq (sIf (cOr (cB qeq (eF 2 9 (eV 1)) (eI (-1))) (cNot (cE (eCallV 5 mX5_take [(eV 0), (eI 271)])))) (sRet (eI 0)) sSkip)
 (sSeq (sPut 2 10 (eV 1) (eCallV 5 mX5_takeNumber [(eV 0), (eI 1), (eI 9)]))
 (sRet (eB (cB qne (eF 2 10 (eV 1)) (eI (-1))))))))))))))
set_option maxRecDepth 100000 in
theorem oX5_forecastNumbers : OkS YX5_forecastNumbers [(0, 2), (1, 2)] [(0, 2), (1, 2)] 0 [] [] [] [] [] sX5_forecastNumbers := by
  unfold sX5_forecastNumbers
  exact (okSeq (p1 := 11) (Γ1 := [(0, 2), (1, 2)]) (okPut (p1 := 1) (p2 := 8) (k := 6) (ok_aload_n dX5_forecastNumbers_0 (.head _) rfl (.tail _ (.head _))) (okCallV (p1 := 5) (okCons (p1 := 2) (ok_aload_n dX5_forecastNumbers_1 (.head _) rfl (.head _)) (okCons (p1 := 3) (ok_iconst dX5_forecastNumbers_2 (.head _) (irn (by decide) (by decide))) (okCons (p1 := 5) (ok_bipush dX5_forecastNumbers_3 (.head _) (irn4 (by decide) (by decide))) okNil))) MX5_takeNumber cf_X5_takeNumber ci_5 rfl kc_X5_takeNumber km_X5_83 ki_X5_takeNumber kv_X5_takeNumber kn_X5 (Nat.le_of_ble_eq_true rfl) (Nat.le_of_ble_eq_true rfl) dX5_forecastNumbers_5 (.head _) (by decide) rfl (by decide)) rfl ci_2 (by decide) kf_X5_167 rfl (fun z _ => qfit_int z) dX5_forecastNumbers_8 (.head _) rfl)
 (okSeq (p1 := 31) (Γ1 := [(0, 2), (1, 2)]) (okIf (Γ' := [(0, 2), (1, 2)]) (T := [29]) (F := [31]) (okOr (p1 := 19) (okCBt (p1 := 15) (p2 := 16) (τa := 0) (τb := 0) (okF (p1 := 12) (k := 6) (ok_aload_n dX5_forecastNumbers_11 (.head _) rfl (.tail _ (.head _))) ci_2 (by decide) kf_X5_167 dX5_forecastNumbers_12 (.head _) rfl rfl) (ok_iconst dX5_forecastNumbers_15 (.head _) (irn (by decide) (by decide))) (j_icmp_eq dX5_forecastNumbers_16 rfl) (.head _) (.head _)) (okNot (okCEt (p1 := 26) (okI (τ := 3) (okCallV (p1 := 23) (okCons (p1 := 20) (ok_aload_n dX5_forecastNumbers_19 (.head _) rfl (.head _)) (okCons (p1 := 23) (ok_sipush dX5_forecastNumbers_20 (.head _) ⟨by decide, by decide⟩) okNil)) MX5_take cf_X5_take ci_5 rfl kc_X5_take km_X5_90 ki_X5_take kv_X5_take kn_X5 (Nat.le_of_ble_eq_true rfl) (Nat.le_of_ble_eq_true rfl) dX5_forecastNumbers_23 (.head _) (by decide) rfl (by decide)) t_3) (j_if_ne dX5_forecastNumbers_26 rfl) (.head _) (.head _)))) (one (okRet (p1 := 30) (τ := 3) (ok_zconst dX5_forecastNumbers_29 (.head _) ⟨by decide, by decide⟩) rfl (by decide) dX5_forecastNumbers_30)) (fun t ht => okSkip ht))
 (okSeq (p1 := 42) (Γ1 := [(0, 2), (1, 2)]) (okPut (p1 := 32) (p2 := 39) (k := 7) (ok_aload_n dX5_forecastNumbers_31 (.head _) rfl (.tail _ (.head _))) (okCallV (p1 := 36) (okCons (p1 := 33) (ok_aload_n dX5_forecastNumbers_32 (.head _) rfl (.head _)) (okCons (p1 := 34) (ok_iconst dX5_forecastNumbers_33 (.head _) (irn (by decide) (by decide))) (okCons (p1 := 36) (ok_bipush dX5_forecastNumbers_34 (.head _) (irn4 (by decide) (by decide))) okNil))) MX5_takeNumber cf_X5_takeNumber ci_5 rfl kc_X5_takeNumber km_X5_83 ki_X5_takeNumber kv_X5_takeNumber kn_X5 (Nat.le_of_ble_eq_true rfl) (Nat.le_of_ble_eq_true rfl) dX5_forecastNumbers_36 (.head _) (by decide) rfl (by decide)) rfl ci_2 (by decide) kf_X5_173 rfl (fun z _ => qfit_int z) dX5_forecastNumbers_39 (.head _) rfl)
 (okSeq (p1 := 52) (Γ1 := [(0, 2), (1, 2)]) (okIf (Γ' := [(0, 2), (1, 2)]) (T := [50]) (F := [52]) (okCBf (p1 := 46) (p2 := 47) (τa := 0) (τb := 0) (okF (p1 := 43) (k := 7) (ok_aload_n dX5_forecastNumbers_42 (.head _) rfl (.tail _ (.head _))) ci_2 (by decide) kf_X5_173 dX5_forecastNumbers_43 (.head _) rfl rfl) (ok_iconst dX5_forecastNumbers_46 (.head _) (irn (by decide) (by decide))) (j_icmp_ne dX5_forecastNumbers_47 rfl) nq_eq (.head _) (.head _)) (one (okRet (p1 := 51) (τ := 3) (ok_zconst dX5_forecastNumbers_50 (.head _) ⟨by decide, by decide⟩) rfl (by decide) dX5_forecastNumbers_51)) (fun t ht => okSkip ht))
 (okSeq (p1 := 63) (Γ1 := [(0, 2), (1, 2)]) (okPut (p1 := 53) (p2 := 60) (k := 8) (ok_aload_n dX5_forecastNumbers_52 (.head _) rfl (.tail _ (.head _))) (okCallV (p1 := 57) (okCons (p1 := 54) (ok_aload_n dX5_forecastNumbers_53 (.head _) rfl (.head _)) (okCons (p1 := 55) (ok_iconst dX5_forecastNumbers_54 (.head _) (irn (by decide) (by decide))) (okCons (p1 := 57) (ok_bipush dX5_forecastNumbers_55 (.head _) (irn4 (by decide) (by decide))) okNil))) MX5_takeNumber cf_X5_takeNumber ci_5 rfl kc_X5_takeNumber km_X5_83 ki_X5_takeNumber kv_X5_takeNumber kn_X5 (Nat.le_of_ble_eq_true rfl) (Nat.le_of_ble_eq_true rfl) dX5_forecastNumbers_57 (.head _) (by decide) rfl (by decide)) rfl ci_2 (by decide) kf_X5_176 rfl (fun z _ => qfit_int z) dX5_forecastNumbers_60 (.head _) rfl)
 (okSeq (p1 := 73) (Γ1 := [(0, 2), (1, 2)]) (okIf (Γ' := [(0, 2), (1, 2)]) (T := [71]) (F := [73]) (okCBf (p1 := 67) (p2 := 68) (τa := 0) (τb := 0) (okF (p1 := 64) (k := 8) (ok_aload_n dX5_forecastNumbers_63 (.head _) rfl (.tail _ (.head _))) ci_2 (by decide) kf_X5_176 dX5_forecastNumbers_64 (.head _) rfl rfl) (ok_iconst dX5_forecastNumbers_67 (.head _) (irn (by decide) (by decide))) (j_icmp_ne dX5_forecastNumbers_68 rfl) nq_eq (.head _) (.head _)) (one (okRet (p1 := 72) (τ := 3) (ok_zconst dX5_forecastNumbers_71 (.head _) ⟨by decide, by decide⟩) rfl (by decide) dX5_forecastNumbers_72)) (fun t ht => okSkip ht))
 (okSeq (p1 := 84) (Γ1 := [(0, 2), (1, 2)]) (okPut (p1 := 74) (p2 := 81) (k := 9) (ok_aload_n dX5_forecastNumbers_73 (.head _) rfl (.tail _ (.head _))) (okCallV (p1 := 78) (okCons (p1 := 75) (ok_aload_n dX5_forecastNumbers_74 (.head _) rfl (.head _)) (okCons (p1 := 76) (ok_iconst dX5_forecastNumbers_75 (.head _) (irn (by decide) (by decide))) (okCons (p1 := 78) (ok_bipush dX5_forecastNumbers_76 (.head _) (irn4 (by decide) (by decide))) okNil))) MX5_takeNumber cf_X5_takeNumber ci_5 rfl kc_X5_takeNumber km_X5_83 ki_X5_takeNumber kv_X5_takeNumber kn_X5 (Nat.le_of_ble_eq_true rfl) (Nat.le_of_ble_eq_true rfl) dX5_forecastNumbers_78 (.head _) (by decide) rfl (by decide)) rfl ci_2 (by decide) kf_X5_179 rfl (fun z _ => qfit_int z) dX5_forecastNumbers_81 (.head _) rfl)
 (okSeq (p1 := 104) (Γ1 := [(0, 2), (1, 2)]) (okIf (Γ' := [(0, 2), (1, 2)]) (T := [102]) (F := [104]) (okOr (p1 := 92) (okCBt (p1 := 88) (p2 := 89) (τa := 0) (τb := 0) (okF (p1 := 85) (k := 9) (ok_aload_n dX5_forecastNumbers_84 (.head _) rfl (.tail _ (.head _))) ci_2 (by decide) kf_X5_179 dX5_forecastNumbers_85 (.head _) rfl rfl) (ok_iconst dX5_forecastNumbers_88 (.head _) (irn (by decide) (by decide))) (j_icmp_eq dX5_forecastNumbers_89 rfl) (.head _) (.head _)) (okNot (okCEt (p1 := 99) (okI (τ := 3) (okCallV (p1 := 96) (okCons (p1 := 93) (ok_aload_n dX5_forecastNumbers_92 (.head _) rfl (.head _)) (okCons (p1 := 96) (ok_sipush dX5_forecastNumbers_93 (.head _) ⟨by decide, by decide⟩) okNil)) MX5_take cf_X5_take ci_5 rfl kc_X5_take km_X5_90 ki_X5_take kv_X5_take kn_X5 (Nat.le_of_ble_eq_true rfl) (Nat.le_of_ble_eq_true rfl) dX5_forecastNumbers_96 (.head _) (by decide) rfl (by decide)) t_3) (j_if_ne dX5_forecastNumbers_99 rfl) (.head _) (.head _)))) (one (okRet (p1 := 103) (τ := 3) (ok_zconst dX5_forecastNumbers_102 (.head _) ⟨by decide, by decide⟩) rfl (by decide) dX5_forecastNumbers_103)) (fun t ht => okSkip ht))
 (okSeq (p1 := 115) (Γ1 := [(0, 2), (1, 2)]) (okPut (p1 := 105) (p2 := 112) (k := 10) (ok_aload_n dX5_forecastNumbers_104 (.head _) rfl (.tail _ (.head _))) (okCallV (p1 := 109) (okCons (p1 := 106) (ok_aload_n dX5_forecastNumbers_105 (.head _) rfl (.head _)) (okCons (p1 := 107) (ok_iconst dX5_forecastNumbers_106 (.head _) (irn (by decide) (by decide))) (okCons (p1 := 109) (ok_bipush dX5_forecastNumbers_107 (.head _) (irn4 (by decide) (by decide))) okNil))) MX5_takeNumber cf_X5_takeNumber ci_5 rfl kc_X5_takeNumber km_X5_83 ki_X5_takeNumber kv_X5_takeNumber kn_X5 (Nat.le_of_ble_eq_true rfl) (Nat.le_of_ble_eq_true rfl) dX5_forecastNumbers_109 (.head _) (by decide) rfl (by decide)) rfl ci_2 (by decide) kf_X5_182 rfl (fun z _ => qfit_int z) dX5_forecastNumbers_112 (.head _) rfl)
 (okRet (p1 := 128) (τ := 3) (okBv (pt := 123) (pf := 127) (pe := 128) (okCBf (p1 := 119) (p2 := 120) (τa := 0) (τb := 0) (okF (p1 := 116) (k := 10) (ok_aload_n dX5_forecastNumbers_115 (.head _) rfl (.tail _ (.head _))) ci_2 (by decide) kf_X5_182 dX5_forecastNumbers_116 (.head _) rfl rfl) (ok_iconst dX5_forecastNumbers_119 (.head _) (irn (by decide) (by decide))) (j_icmp_eq dX5_forecastNumbers_120 rfl) nq_ne (.head _) (.head _)) dX5_forecastNumbers_123 dX5_forecastNumbers_124 rfl dX5_forecastNumbers_127 (.head _) (.head _)) rfl (by decide) dX5_forecastNumbers_128))))))))))
def mX5_forecastNumbers : QM := qM [2, 2] sX5_forecastNumbers
theorem MX5_forecastNumbers : MetY YX5_forecastNumbers yX5_forecastNumbers (some .boolean) [2, 2] mX5_forecastNumbers := metY_of rfl (by decide +kernel) (.inr (.inl ⟨rfl, rfl⟩)) (by decide) oX5_forecastNumbers

abbrev YX5_forecastLine : YT := (RX5, cX5_forecastLine, 2, 5, 107, 3)
theorem cf_X5_forecastLine : CF yX5_forecastLine 0 := ⟨by decide +kernel, by decide +kernel, by decide +kernel⟩
def sX5_forecastLine : QT :=
 (sSeq (sPutC 5 2 (eV 0) iA (eI 1))
 (sSeq (sIf (cB qne (eCallV 5 mX5_kind [(eV 0)]) (eI 4)) (sRet (eCallV 5 mX5_fail [(eV 0), (eI 1)])) sSkip)
 (sSeq (sSet 1 (eCallV 5 mX5_bearerHere [(eV 0)]))
 (sSeq (sIf (cOr (cOr (cB qlt (eV 1) (eI 0)) (cB qge (eV 1) (eI 4))) (cB qgt (eF 2 6 (eA 32 (eF 6 3 (eF 5 1 (eV 0))) (eV 1))) (eI 0))) (sRet (eCallV 5 mX5_fail [(eV 0), (eI 3)])) sSkip)
 (sSeq (sPutC 5 2 (eV 0) iA (eI 1))
 (sRet (eB (cAnd (cAnd (cE (eCallV 5 mX5_take [(eV 0), (eI 270)])) (cE (eCallV 5 mX5_forecastNumbers [(eV 0), (eA 32 (eF 6 3 (eF 5 1 (eV 0))) (eV 1))]))) (cE (eCallV 5 mX5_take [(eV 0), (eI 59)]))))))))))
set_option maxRecDepth 100000 in
theorem oX5_forecastLine : OkS YX5_forecastLine [(0, 2)] [(0, 2), (1, 0)] 0 [] [] [] [] [] sX5_forecastLine := by
  unfold sX5_forecastLine
  exact (okSeq (p1 := 10) (Γ1 := [(0, 2)]) (okPutC (p1 := 1) (p2 := 6) (p3 := 7) (k := 2) (τ := 0) (τb := 0) (ok_aload_n dX5_forecastLine_0 (.head _) rfl (.head _)) dX5_forecastLine_1 dX5_forecastLine_2 (ok_iconst dX5_forecastLine_5 (.head _) (irn (by decide) (by decide))) (s_iadd dX5_forecastLine_6 (.head _)) rfl ci_5 (by decide) kf_X5_34 rfl (fun z _ => qfit_int z) dX5_forecastLine_7 (.head _) rfl)
 (okSeq (p1 := 24) (Γ1 := [(0, 2)]) (okIf (Γ' := [(0, 2)]) (T := [18]) (F := [24]) (okCBf (p1 := 14) (p2 := 15) (τa := 0) (τb := 0) (okCallV (p1 := 11) (okCons (p1 := 11) (ok_aload_n dX5_forecastLine_10 (.head _) rfl (.head _)) okNil) MX5_kind cf_X5_kind ci_5 rfl kc_X5_kind km_X5_47 ki_X5_kind kv_X5_kind kn_X5 (Nat.le_of_ble_eq_true rfl) (Nat.le_of_ble_eq_true rfl) dX5_forecastLine_11 (.head _) (by decide) rfl (by decide)) (ok_iconst dX5_forecastLine_14 (.head _) (irn (by decide) (by decide))) (j_icmp_eq dX5_forecastLine_15 rfl) nq_ne (.head _) (.head _)) (one (okRet (p1 := 23) (τ := 3) (okCallV (p1 := 20) (okCons (p1 := 19) (ok_aload_n dX5_forecastLine_18 (.head _) rfl (.head _)) (okCons (p1 := 20) (ok_iconst dX5_forecastLine_19 (.head _) (irn (by decide) (by decide))) okNil)) MX5_fail cf_X5_fail ci_5 rfl kc_X5_fail km_X5_51 ki_X5_fail kv_X5_fail kn_X5 (Nat.le_of_ble_eq_true rfl) (Nat.le_of_ble_eq_true rfl) dX5_forecastLine_20 (.head _) (by decide) rfl (by decide)) rfl (by decide) dX5_forecastLine_23)) (fun t ht => okSkip ht))
 (okSeq (p1 := 29) (Γ1 := [(0, 2), (1, 0)]) (ok_istore_n (Γ' := [(0, 2), (1, 0)]) (p1 := 28) (τ := 0) (okCallV (p1 := 25) (okCons (p1 := 25) (ok_aload_n dX5_forecastLine_24 (.head _) rfl (.head _)) okNil) MX5_bearerHere cf_X5_bearerHere ci_5 rfl kc_X5_bearerHere km_X5_164 ki_X5_bearerHere kv_X5_bearerHere kn_X5 (Nat.le_of_ble_eq_true rfl) (Nat.le_of_ble_eq_true rfl) dX5_forecastLine_25 (.head _) (by decide) rfl (by decide)) t_0 dX5_forecastLine_28 rfl (by decide) (.head _) (by decide))
 (okSeq (p1 := 59) (Γ1 := [(0, 2), (1, 0)]) (okIf (Γ' := [(0, 2), (1, 0)]) (T := [53]) (F := [59]) (okOr (p1 := 38) (okOr (p1 := 33) (okCZt (p1 := 30) (τa := 0) (ok_iload_n dX5_forecastLine_29 (.head _) rfl (.tail _ (.head _)) t_0) (j_if_lt dX5_forecastLine_30 rfl) (.head _) (.head _)) (okCBt (p1 := 34) (p2 := 35) (τa := 0) (τb := 0) (ok_iload_n dX5_forecastLine_33 (.head _) rfl (.tail _ (.head _)) t_0) (ok_iconst dX5_forecastLine_34 (.head _) (irn (by decide) (by decide))) (j_icmp_ge dX5_forecastLine_35 rfl) (.head _) (.head _))) (okCZf (p1 := 50) (τa := 0) (okF (p1 := 47) (k := 6) (ok_aaload (C := RX2) (by decide) rfl rfl (p1 := 45) (p2 := 46) (okF (p1 := 42) (k := 3) (okF (p1 := 39) (k := 1) (ok_aload_n dX5_forecastLine_38 (.head _) rfl (.head _)) ci_5 (by decide) kf_X5_25 dX5_forecastLine_39 (.head _) rfl rfl) ci_6 (by decide) kf_X5_96 dX5_forecastLine_42 (.head _) rfl rfl) (ok_iload_n dX5_forecastLine_45 (.head _) rfl (.tail _ (.head _)) t_0) dX5_forecastLine_46 (.head _)) ci_2 (by decide) kf_X5_167 dX5_forecastLine_47 (.head _) rfl rfl) (j_if_le dX5_forecastLine_50 rfl) nq_gt (.head _) (.head _))) (one (okRet (p1 := 58) (τ := 3) (okCallV (p1 := 55) (okCons (p1 := 54) (ok_aload_n dX5_forecastLine_53 (.head _) rfl (.head _)) (okCons (p1 := 55) (ok_iconst dX5_forecastLine_54 (.head _) (irn (by decide) (by decide))) okNil)) MX5_fail cf_X5_fail ci_5 rfl kc_X5_fail km_X5_51 ki_X5_fail kv_X5_fail kn_X5 (Nat.le_of_ble_eq_true rfl) (Nat.le_of_ble_eq_true rfl) dX5_forecastLine_55 (.head _) (by decide) rfl (by decide)) rfl (by decide) dX5_forecastLine_58)) (fun t ht => okSkip ht))
 (okSeq (p1 := 69) (Γ1 := [(0, 2), (1, 0)]) (okPutC (p1 := 60) (p2 := 65) (p3 := 66) (k := 2) (τ := 0) (τb := 0) (ok_aload_n dX5_forecastLine_59 (.head _) rfl (.head _)) dX5_forecastLine_60 dX5_forecastLine_61 (ok_iconst dX5_forecastLine_64 (.head _) (irn (by decide) (by decide))) (s_iadd dX5_forecastLine_65 (.head _)) rfl ci_5 (by decide) kf_X5_34 rfl (fun z _ => qfit_int z) dX5_forecastLine_66 (.head _) rfl)
 (okRet (p1 := 109) (τ := 3) (okBv (pt := 104) (pf := 108) (pe := 109) (okAnd (p1 := 95) (okAnd (p1 := 79) (okCEf (p1 := 76) (okI (τ := 3) (okCallV (p1 := 73) (okCons (p1 := 70) (ok_aload_n dX5_forecastLine_69 (.head _) rfl (.head _)) (okCons (p1 := 73) (ok_sipush dX5_forecastLine_70 (.head _) ⟨by decide, by decide⟩) okNil)) MX5_take cf_X5_take ci_5 rfl kc_X5_take km_X5_90 ki_X5_take kv_X5_take kn_X5 (Nat.le_of_ble_eq_true rfl) (Nat.le_of_ble_eq_true rfl) dX5_forecastLine_73 (.head _) (by decide) rfl (by decide)) t_3) (j_if_eq dX5_forecastLine_76 rfl) (.head _) (.head _)) (okCEf (p1 := 92) (okI (τ := 3) (okCallV (p1 := 89) (okCons (p1 := 80) (ok_aload_n dX5_forecastLine_79 (.head _) rfl (.head _)) (okCons (p1 := 89) (ok_aaload (C := RX2) (by decide) rfl rfl (p1 := 87) (p2 := 88) (okF (p1 := 84) (k := 3) (okF (p1 := 81) (k := 1) (ok_aload_n dX5_forecastLine_80 (.head _) rfl (.head _)) ci_5 (by decide) kf_X5_25 dX5_forecastLine_81 (.head _) rfl rfl) ci_6 (by decide) kf_X5_96 dX5_forecastLine_84 (.head _) rfl rfl) (ok_iload_n dX5_forecastLine_87 (.head _) rfl (.tail _ (.head _)) t_0) dX5_forecastLine_88 (.head _)) okNil)) MX5_forecastNumbers cf_X5_forecastNumbers ci_5 rfl kc_X5_forecastNumbers km_X5_170 ki_X5_forecastNumbers kv_X5_forecastNumbers kn_X5 (Nat.le_of_ble_eq_true rfl) (Nat.le_of_ble_eq_true rfl) dX5_forecastLine_89 (.head _) (by decide) rfl (by decide)) t_3) (j_if_eq dX5_forecastLine_92 rfl) (.head _) (.head _))) (okCEf (p1 := 101) (okI (τ := 3) (okCallV (p1 := 98) (okCons (p1 := 96) (ok_aload_n dX5_forecastLine_95 (.head _) rfl (.head _)) (okCons (p1 := 98) (ok_bipush dX5_forecastLine_96 (.head _) (irn4 (by decide) (by decide))) okNil)) MX5_take cf_X5_take ci_5 rfl kc_X5_take km_X5_90 ki_X5_take kv_X5_take kn_X5 (Nat.le_of_ble_eq_true rfl) (Nat.le_of_ble_eq_true rfl) dX5_forecastLine_98 (.head _) (by decide) rfl (by decide)) t_3) (j_if_eq dX5_forecastLine_101 rfl) (.head _) (.head _))) dX5_forecastLine_104 dX5_forecastLine_105 rfl dX5_forecastLine_108 (.head _) (.head _)) rfl (by decide) dX5_forecastLine_109))))))
def mX5_forecastLine : QM := qM [2] sX5_forecastLine
theorem MX5_forecastLine : MetY YX5_forecastLine yX5_forecastLine (some .boolean) [2] mX5_forecastLine := metY_of rfl (by decide +kernel) (.inr (.inl ⟨rfl, rfl⟩)) (by decide) oX5_forecastLine

abbrev YX2_clear : YT := (RX2, cX2_clear, 1, 0, 0, 9)
theorem cf_X2_clear : CF yX2_clear 0 := ⟨by decide +kernel, by decide +kernel, by decide +kernel⟩
def sX2_clear : QT :=
 (sSeq (sPut 2 4 (eV 0) (eI 0))
 (sSeq (sPut 2 5 (eV 0) (eI 999999))
 (sSeq (sPut 2 6 (eV 0) (eI 0))
 sRetV)))
set_option maxRecDepth 100000 in
theorem oX2_clear : OkS YX2_clear [(0, 2)] [(0, 2)] 0 [] [] [] [] [] sX2_clear := by
  unfold sX2_clear
  exact (okSeq (p1 := 5) (Γ1 := [(0, 2)]) (okPut (p1 := 1) (p2 := 2) (k := 4) (ok_aload_n dX2_clear_0 (.head _) rfl (.head _)) (ok_iconst dX2_clear_1 (.head _) (irn (by decide) (by decide))) rfl ci_2 (by decide) kf_X2_9 rfl (fun z _ => qfit_int z) dX2_clear_2 (.head _) rfl)
 (okSeq (p1 := 11) (Γ1 := [(0, 2)]) (okPut (p1 := 6) (p2 := 8) (k := 5) (ok_aload_n dX2_clear_5 (.head _) rfl (.head _)) (ok_ldc kk_X2_15 (by decide) dX2_clear_6 (.head _)) rfl ci_2 (by decide) kf_X2_16 rfl (fun z _ => qfit_int z) dX2_clear_8 (.head _) rfl)
 (okSeq (p1 := 16) (Γ1 := [(0, 2)]) (okPut (p1 := 12) (p2 := 13) (k := 6) (ok_aload_n dX2_clear_11 (.head _) rfl (.head _)) (ok_iconst dX2_clear_12 (.head _) (irn (by decide) (by decide))) rfl ci_2 (by decide) kf_X2_19 rfl (fun z _ => qfit_int z) dX2_clear_13 (.head _) rfl)
 (okRetV rfl dX2_clear_16))))
def mX2_clear : QM := qM [2] sX2_clear
theorem MX2_clear : MetY YX2_clear yX2_clear none [2] mX2_clear := metY_of rfl (by decide +kernel) (.inr (.inr (.inr (.inl ⟨rfl, rfl⟩)))) (by decide) oX2_clear

abbrev YX5_bounds : YT := (RX5, cX5_bounds, 2, 4, 86, 3)
theorem cf_X5_bounds : CF yX5_bounds 1 := ⟨by decide +kernel, by decide +kernel, by decide +kernel⟩
def sX5_bounds : QT :=
 (sSeq (sIf (cB qeq (eCallV 5 mX5_kind [(eV 0)]) (eI 262)) (sSeq (sPutC 5 2 (eV 0) iA (eI 1))
 (sSeq (sPut 2 4 (eV 1) (eCallV 5 mX5_takeNumber [(eV 0), (eI 0), (eI 999999)]))
 (sIf (cB qeq (eF 2 4 (eV 1)) (eI (-1))) (sRet (eI 0)) sSkip))) sSkip)
 (sSeq (sIf (cB qeq (eCallV 5 mX5_kind [(eV 0)]) (eI 263)) (sSeq (sPutC 5 2 (eV 0) iA (eI 1))
 (sPut 2 5 (eV 1) (eCallV 5 mX5_takeNumber [(eV 0), (eF 2 4 (eV 1)), (eI 999999)]))) sSkip)
 (sRet (eB (cB qne (eF 2 5 (eV 1)) (eI (-1)))))))
set_option maxRecDepth 100000 in
theorem oX5_bounds : OkS YX5_bounds [(0, 2), (1, 2)] [(0, 2), (1, 2)] 0 [] [] [] [] [] sX5_bounds := by
  unfold sX5_bounds
  exact (okSeq (p1 := 41) (Γ1 := [(0, 2), (1, 2)]) (okIf (Γ' := [(0, 2), (1, 2)]) (T := [10]) (F := [41]) (okCBf (p1 := 4) (p2 := 7) (τa := 0) (τb := 0) (okCallV (p1 := 1) (okCons (p1 := 1) (ok_aload_n dX5_bounds_0 (.head _) rfl (.head _)) okNil) MX5_kind cf_X5_kind ci_5 rfl kc_X5_kind km_X5_47 ki_X5_kind kv_X5_kind kn_X5 (Nat.le_of_ble_eq_true rfl) (Nat.le_of_ble_eq_true rfl) dX5_bounds_1 (.head _) (by decide) rfl (by decide)) (ok_sipush dX5_bounds_4 (.head _) ⟨by decide, by decide⟩) (j_icmp_ne dX5_bounds_7 rfl) nq_eq (.head _) (.head _)) (one (okSeq (p1 := 20) (Γ1 := [(0, 2), (1, 2)]) (okPutC (p1 := 11) (p2 := 16) (p3 := 17) (k := 2) (τ := 0) (τb := 0) (ok_aload_n dX5_bounds_10 (.head _) rfl (.head _)) dX5_bounds_11 dX5_bounds_12 (ok_iconst dX5_bounds_15 (.head _) (irn (by decide) (by decide))) (s_iadd dX5_bounds_16 (.head _)) rfl ci_5 (by decide) kf_X5_34 rfl (fun z _ => qfit_int z) dX5_bounds_17 (.head _) rfl)
 (okSeq (p1 := 31) (Γ1 := [(0, 2), (1, 2)]) (okPut (p1 := 21) (p2 := 28) (k := 4) (ok_aload_n dX5_bounds_20 (.head _) rfl (.tail _ (.head _))) (okCallV (p1 := 25) (okCons (p1 := 22) (ok_aload_n dX5_bounds_21 (.head _) rfl (.head _)) (okCons (p1 := 23) (ok_iconst dX5_bounds_22 (.head _) (irn (by decide) (by decide))) (okCons (p1 := 25) (ok_ldc kk_X5_133 (by decide) dX5_bounds_23 (.head _)) okNil))) MX5_takeNumber cf_X5_takeNumber ci_5 rfl kc_X5_takeNumber km_X5_83 ki_X5_takeNumber kv_X5_takeNumber kn_X5 (Nat.le_of_ble_eq_true rfl) (Nat.le_of_ble_eq_true rfl) dX5_bounds_25 (.head _) (by decide) rfl (by decide)) rfl ci_2 (by decide) kf_X5_134 rfl (fun z _ => qfit_int z) dX5_bounds_28 (.head _) rfl)
 (okIf (Γ' := [(0, 2), (1, 2)]) (T := [39]) (F := [41]) (okCBf (p1 := 35) (p2 := 36) (τa := 0) (τb := 0) (okF (p1 := 32) (k := 4) (ok_aload_n dX5_bounds_31 (.head _) rfl (.tail _ (.head _))) ci_2 (by decide) kf_X5_134 dX5_bounds_32 (.head _) rfl rfl) (ok_iconst dX5_bounds_35 (.head _) (irn (by decide) (by decide))) (j_icmp_ne dX5_bounds_36 rfl) nq_eq (.head _) (.head _)) (one (okRet (p1 := 40) (τ := 3) (ok_zconst dX5_bounds_39 (.head _) ⟨by decide, by decide⟩) rfl (by decide) dX5_bounds_40)) (fun t ht => okSkip ht))))) (fun t ht => okSkip ht))
 (okSeq (p1 := 75) (Γ1 := [(0, 2), (1, 2)]) (okIf (Γ' := [(0, 2), (1, 2)]) (T := [51]) (F := [75]) (okCBf (p1 := 45) (p2 := 48) (τa := 0) (τb := 0) (okCallV (p1 := 42) (okCons (p1 := 42) (ok_aload_n dX5_bounds_41 (.head _) rfl (.head _)) okNil) MX5_kind cf_X5_kind ci_5 rfl kc_X5_kind km_X5_47 ki_X5_kind kv_X5_kind kn_X5 (Nat.le_of_ble_eq_true rfl) (Nat.le_of_ble_eq_true rfl) dX5_bounds_42 (.head _) (by decide) rfl (by decide)) (ok_sipush dX5_bounds_45 (.head _) ⟨by decide, by decide⟩) (j_icmp_ne dX5_bounds_48 rfl) nq_eq (.head _) (.head _)) (one (okSeq (p1 := 61) (Γ1 := [(0, 2), (1, 2)]) (okPutC (p1 := 52) (p2 := 57) (p3 := 58) (k := 2) (τ := 0) (τb := 0) (ok_aload_n dX5_bounds_51 (.head _) rfl (.head _)) dX5_bounds_52 dX5_bounds_53 (ok_iconst dX5_bounds_56 (.head _) (irn (by decide) (by decide))) (s_iadd dX5_bounds_57 (.head _)) rfl ci_5 (by decide) kf_X5_34 rfl (fun z _ => qfit_int z) dX5_bounds_58 (.head _) rfl)
 (okPut (p1 := 62) (p2 := 72) (k := 5) (ok_aload_n dX5_bounds_61 (.head _) rfl (.tail _ (.head _))) (okCallV (p1 := 69) (okCons (p1 := 63) (ok_aload_n dX5_bounds_62 (.head _) rfl (.head _)) (okCons (p1 := 67) (okF (p1 := 64) (k := 4) (ok_aload_n dX5_bounds_63 (.head _) rfl (.tail _ (.head _))) ci_2 (by decide) kf_X5_134 dX5_bounds_64 (.head _) rfl rfl) (okCons (p1 := 69) (ok_ldc kk_X5_133 (by decide) dX5_bounds_67 (.head _)) okNil))) MX5_takeNumber cf_X5_takeNumber ci_5 rfl kc_X5_takeNumber km_X5_83 ki_X5_takeNumber kv_X5_takeNumber kn_X5 (Nat.le_of_ble_eq_true rfl) (Nat.le_of_ble_eq_true rfl) dX5_bounds_69 (.head _) (by decide) rfl (by decide)) rfl ci_2 (by decide) kf_X5_137 rfl (fun z _ => qfit_int z) dX5_bounds_72 (.head _) rfl))) (fun t ht => okSkip ht))
 (okRet (p1 := 88) (τ := 3) (okBv (pt := 83) (pf := 87) (pe := 88) (okCBf (p1 := 79) (p2 := 80) (τa := 0) (τb := 0) (okF (p1 := 76) (k := 5) (ok_aload_n dX5_bounds_75 (.head _) rfl (.tail _ (.head _))) ci_2 (by decide) kf_X5_137 dX5_bounds_76 (.head _) rfl rfl) (ok_iconst dX5_bounds_79 (.head _) (irn (by decide) (by decide))) (j_icmp_eq dX5_bounds_80 rfl) nq_ne (.head _) (.head _)) dX5_bounds_83 dX5_bounds_84 rfl dX5_bounds_87 (.head _) (.head _)) rfl (by decide) dX5_bounds_88)))
def mX5_bounds : QM := qM [2, 2] sX5_bounds
theorem MX5_bounds : MetY YX5_bounds yX5_bounds (some .boolean) [2, 2] mX5_bounds := metY_of rfl (by decide +kernel) (.inr (.inl ⟨rfl, rfl⟩)) (by decide) oX5_bounds

abbrev YX5_newName : YT := (RX5, cX5_newName, 1, 3, 66, 3)
theorem cf_X5_newName : CF yX5_newName 0 := ⟨by decide +kernel, by decide +kernel, by decide +kernel⟩
def sX5_newName : QT :=
 (sSeq (sIf (cB qne (eCallV 5 mX5_kind [(eV 0)]) (eI 4)) (sRet (eCallV 5 mX5_fail [(eV 0), (eI 1)])) sSkip)
 (sSeq (sIf (cB qne (eCallV 5 mX5_bearerHere [(eV 0)]) (eI (-1))) (sRet (eCallV 5 mX5_fail [(eV 0), (eI 3)])) sSkip)
 (sSeq (sPutC 5 2 (eV 0) iA (eI 1))
 (sRet (eI 1)))))
set_option maxRecDepth 100000 in
theorem oX5_newName : OkS YX5_newName [(0, 2)] [(0, 2)] 0 [] [] [] [] [] sX5_newName := by
  unfold sX5_newName
  exact (okSeq (p1 := 14) (Γ1 := [(0, 2)]) (okIf (Γ' := [(0, 2)]) (T := [8]) (F := [14]) (okCBf (p1 := 4) (p2 := 5) (τa := 0) (τb := 0) (okCallV (p1 := 1) (okCons (p1 := 1) (ok_aload_n dX5_newName_0 (.head _) rfl (.head _)) okNil) MX5_kind cf_X5_kind ci_5 rfl kc_X5_kind km_X5_47 ki_X5_kind kv_X5_kind kn_X5 (Nat.le_of_ble_eq_true rfl) (Nat.le_of_ble_eq_true rfl) dX5_newName_1 (.head _) (by decide) rfl (by decide)) (ok_iconst dX5_newName_4 (.head _) (irn (by decide) (by decide))) (j_icmp_eq dX5_newName_5 rfl) nq_ne (.head _) (.head _)) (one (okRet (p1 := 13) (τ := 3) (okCallV (p1 := 10) (okCons (p1 := 9) (ok_aload_n dX5_newName_8 (.head _) rfl (.head _)) (okCons (p1 := 10) (ok_iconst dX5_newName_9 (.head _) (irn (by decide) (by decide))) okNil)) MX5_fail cf_X5_fail ci_5 rfl kc_X5_fail km_X5_51 ki_X5_fail kv_X5_fail kn_X5 (Nat.le_of_ble_eq_true rfl) (Nat.le_of_ble_eq_true rfl) dX5_newName_10 (.head _) (by decide) rfl (by decide)) rfl (by decide) dX5_newName_13)) (fun t ht => okSkip ht))
 (okSeq (p1 := 28) (Γ1 := [(0, 2)]) (okIf (Γ' := [(0, 2)]) (T := [22]) (F := [28]) (okCBf (p1 := 18) (p2 := 19) (τa := 0) (τb := 0) (okCallV (p1 := 15) (okCons (p1 := 15) (ok_aload_n dX5_newName_14 (.head _) rfl (.head _)) okNil) MX5_bearerHere cf_X5_bearerHere ci_5 rfl kc_X5_bearerHere km_X5_164 ki_X5_bearerHere kv_X5_bearerHere kn_X5 (Nat.le_of_ble_eq_true rfl) (Nat.le_of_ble_eq_true rfl) dX5_newName_15 (.head _) (by decide) rfl (by decide)) (ok_iconst dX5_newName_18 (.head _) (irn (by decide) (by decide))) (j_icmp_eq dX5_newName_19 rfl) nq_ne (.head _) (.head _)) (one (okRet (p1 := 27) (τ := 3) (okCallV (p1 := 24) (okCons (p1 := 23) (ok_aload_n dX5_newName_22 (.head _) rfl (.head _)) (okCons (p1 := 24) (ok_iconst dX5_newName_23 (.head _) (irn (by decide) (by decide))) okNil)) MX5_fail cf_X5_fail ci_5 rfl kc_X5_fail km_X5_51 ki_X5_fail kv_X5_fail kn_X5 (Nat.le_of_ble_eq_true rfl) (Nat.le_of_ble_eq_true rfl) dX5_newName_24 (.head _) (by decide) rfl (by decide)) rfl (by decide) dX5_newName_27)) (fun t ht => okSkip ht))
 (okSeq (p1 := 38) (Γ1 := [(0, 2)]) (okPutC (p1 := 29) (p2 := 34) (p3 := 35) (k := 2) (τ := 0) (τb := 0) (ok_aload_n dX5_newName_28 (.head _) rfl (.head _)) dX5_newName_29 dX5_newName_30 (ok_iconst dX5_newName_33 (.head _) (irn (by decide) (by decide))) (s_iadd dX5_newName_34 (.head _)) rfl ci_5 (by decide) kf_X5_34 rfl (fun z _ => qfit_int z) dX5_newName_35 (.head _) rfl)
 (okRet (p1 := 39) (τ := 3) (ok_zconst dX5_newName_38 (.head _) ⟨by decide, by decide⟩) rfl (by decide) dX5_newName_39))))
def mX5_newName : QM := qM [2] sX5_newName
theorem MX5_newName : MetY YX5_newName yX5_newName (some .boolean) [2] mX5_newName := metY_of rfl (by decide +kernel) (.inr (.inl ⟨rfl, rfl⟩)) (by decide) oX5_newName

abbrev YX5_remember : YT := (RX5, cX5_remember, 3, 0, 0, 9)
theorem cf_X5_remember : CF yX5_remember 2 := ⟨by decide +kernel, by decide +kernel, by decide +kernel⟩
def sX5_remember : QT :=
 (sSeq (sIf (cB qlt (eF 5 7 (eV 0)) (eN (eF 5 5 (eV 0)))) (sSeq (sArr 20 (eF 5 5 (eV 0)) (eF 5 7 (eV 0)) (eV 1))
 (sSeq (sArr 20 (eF 5 6 (eV 0)) (eF 5 7 (eV 0)) (eV 2))
 (sPutC 5 7 (eV 0) iA (eI 1)))) sSkip)
 sRetV)
set_option maxRecDepth 100000 in
theorem oX5_remember : OkS YX5_remember [(0, 2), (1, 0), (2, 0)] [(0, 2), (1, 0), (2, 0)] 0 [] [] [] [] [] sX5_remember := by
  unfold sX5_remember
  exact (okSeq (p1 := 42) (Γ1 := [(0, 2), (1, 0), (2, 0)]) (okIf (Γ' := [(0, 2), (1, 0), (2, 0)]) (T := [12]) (F := [42]) (okCBf (p1 := 4) (p2 := 9) (τa := 0) (τb := 0) (okF (p1 := 1) (k := 7) (ok_aload_n dX5_remember_0 (.head _) rfl (.head _)) ci_5 (by decide) kf_X5_38 dX5_remember_1 (.head _) rfl rfl) (ok_alen (p1 := 8) (okF (p1 := 5) (k := 5) (ok_aload_n dX5_remember_4 (.head _) rfl (.head _)) ci_5 (by decide) kf_X5_11 dX5_remember_5 (.head _) rfl rfl) dX5_remember_8 (.head _)) (j_icmp_ge dX5_remember_9 rfl) nq_lt (.head _) (.head _)) (one (okSeq (p1 := 22) (Γ1 := [(0, 2), (1, 0), (2, 0)]) (okArr (p1 := 16) (p2 := 20) (p3 := 21) (by decide) (okF (p1 := 13) (k := 5) (ok_aload_n dX5_remember_12 (.head _) rfl (.head _)) ci_5 (by decide) kf_X5_11 dX5_remember_13 (.head _) rfl rfl) (okF (p1 := 17) (k := 7) (ok_aload_n dX5_remember_16 (.head _) rfl (.head _)) ci_5 (by decide) kf_X5_38 dX5_remember_17 (.head _) rfl rfl) (ok_iload_n dX5_remember_20 (.head _) rfl (.tail _ (.head _)) t_0) dX5_remember_21 (.head _))
 (okSeq (p1 := 32) (Γ1 := [(0, 2), (1, 0), (2, 0)]) (okArr (p1 := 26) (p2 := 30) (p3 := 31) (by decide) (okF (p1 := 23) (k := 6) (ok_aload_n dX5_remember_22 (.head _) rfl (.head _)) ci_5 (by decide) kf_X5_15 dX5_remember_23 (.head _) rfl rfl) (okF (p1 := 27) (k := 7) (ok_aload_n dX5_remember_26 (.head _) rfl (.head _)) ci_5 (by decide) kf_X5_38 dX5_remember_27 (.head _) rfl rfl) (ok_iload_n dX5_remember_30 (.head _) rfl (.tail _ (.tail _ (.head _))) t_0) dX5_remember_31 (.head _))
 (okPutC (p1 := 33) (p2 := 38) (p3 := 39) (k := 7) (τ := 0) (τb := 0) (ok_aload_n dX5_remember_32 (.head _) rfl (.head _)) dX5_remember_33 dX5_remember_34 (ok_iconst dX5_remember_37 (.head _) (irn (by decide) (by decide))) (s_iadd dX5_remember_38 (.head _)) rfl ci_5 (by decide) kf_X5_38 rfl (fun z _ => qfit_int z) dX5_remember_39 (.head _) rfl)))) (fun t ht => okSkip ht))
 (okRetV rfl dX5_remember_42))
def mX5_remember : QM := qM [2, 0, 0] sX5_remember
theorem MX5_remember : MetY YX5_remember yX5_remember none [2, 0, 0] mX5_remember := metY_of rfl (by decide +kernel) (.inr (.inr (.inr (.inl ⟨rfl, rfl⟩)))) (by decide) oX5_remember

abbrev YX5_silence : YT := (RX5, cX5_silence, 2, 4, 86, 3)
theorem cf_X5_silence : CF yX5_silence 1 := ⟨by decide +kernel, by decide +kernel, by decide +kernel⟩
def sX5_silence : QT :=
 (sSeq (sIf (cNot (cE (eCallV 5 mX5_take [(eV 0), (eI 261)]))) (sRet (eI 0)) sSkip)
 (sSeq (sPut 2 3 (eV 1) (eCallV 5 mX5_takeNumber [(eV 0), (eI 1), (eI 1000)]))
 (sRet (eB (cB qne (eF 2 3 (eV 1)) (eI (-1)))))))
set_option maxRecDepth 100000 in
theorem oX5_silence : OkS YX5_silence [(0, 2), (1, 2)] [(0, 2), (1, 2)] 0 [] [] [] [] [] sX5_silence := by
  unfold sX5_silence
  exact (okSeq (p1 := 12) (Γ1 := [(0, 2), (1, 2)]) (okIf (Γ' := [(0, 2), (1, 2)]) (T := [10]) (F := [12]) (okNot (okCEt (p1 := 7) (okI (τ := 3) (okCallV (p1 := 4) (okCons (p1 := 1) (ok_aload_n dX5_silence_0 (.head _) rfl (.head _)) (okCons (p1 := 4) (ok_sipush dX5_silence_1 (.head _) ⟨by decide, by decide⟩) okNil)) MX5_take cf_X5_take ci_5 rfl kc_X5_take km_X5_90 ki_X5_take kv_X5_take kn_X5 (Nat.le_of_ble_eq_true rfl) (Nat.le_of_ble_eq_true rfl) dX5_silence_4 (.head _) (by decide) rfl (by decide)) t_3) (j_if_ne dX5_silence_7 rfl) (.head _) (.head _))) (one (okRet (p1 := 11) (τ := 3) (ok_zconst dX5_silence_10 (.head _) ⟨by decide, by decide⟩) rfl (by decide) dX5_silence_11)) (fun t ht => okSkip ht))
 (okSeq (p1 := 24) (Γ1 := [(0, 2), (1, 2)]) (okPut (p1 := 13) (p2 := 21) (k := 3) (ok_aload_n dX5_silence_12 (.head _) rfl (.tail _ (.head _))) (okCallV (p1 := 18) (okCons (p1 := 14) (ok_aload_n dX5_silence_13 (.head _) rfl (.head _)) (okCons (p1 := 15) (ok_iconst dX5_silence_14 (.head _) (irn (by decide) (by decide))) (okCons (p1 := 18) (ok_sipush dX5_silence_15 (.head _) ⟨by decide, by decide⟩) okNil))) MX5_takeNumber cf_X5_takeNumber ci_5 rfl kc_X5_takeNumber km_X5_83 ki_X5_takeNumber kv_X5_takeNumber kn_X5 (Nat.le_of_ble_eq_true rfl) (Nat.le_of_ble_eq_true rfl) dX5_silence_18 (.head _) (by decide) rfl (by decide)) rfl ci_2 (by decide) kf_X5_131 rfl (fun z _ => qfit_int z) dX5_silence_21 (.head _) rfl)
 (okRet (p1 := 37) (τ := 3) (okBv (pt := 32) (pf := 36) (pe := 37) (okCBf (p1 := 28) (p2 := 29) (τa := 0) (τb := 0) (okF (p1 := 25) (k := 3) (ok_aload_n dX5_silence_24 (.head _) rfl (.tail _ (.head _))) ci_2 (by decide) kf_X5_131 dX5_silence_25 (.head _) rfl rfl) (ok_iconst dX5_silence_28 (.head _) (irn (by decide) (by decide))) (j_icmp_eq dX5_silence_29 rfl) nq_ne (.head _) (.head _)) dX5_silence_32 dX5_silence_33 rfl dX5_silence_36 (.head _) (.head _)) rfl (by decide) dX5_silence_37)))
def mX5_silence : QM := qM [2, 2] sX5_silence
theorem MX5_silence : MetY YX5_silence yX5_silence (some .boolean) [2, 2] mX5_silence := metY_of rfl (by decide +kernel) (.inr (.inl ⟨rfl, rfl⟩)) (by decide) oX5_silence

abbrev YX5_sort : YT := (RX5, cX5_sort, 2, 3, 63, 3)
theorem cf_X5_sort : CF yX5_sort 1 := ⟨by decide +kernel, by decide +kernel, by decide +kernel⟩
def sX5_sort : QT :=
 (sSeq (sSw (eCallV 5 mX5_kind [(eV 0)]) [([258], (sSeq (sPut 2 0 (eV 1) (eI 0)) sBrk)), ([259], (sSeq (sPut 2 0 (eV 1) (eI 1)) sBrk)), ([260], (sSeq (sPut 2 0 (eV 1) (eI 2)) sBrk))] (sRet (eCallV 5 mX5_fail [(eV 0), (eI 1)])))
 (sSeq (sPutC 5 2 (eV 0) iA (eI 1))
 (sRet (eI 1))))
set_option maxRecDepth 100000 in
theorem oX5_sort : OkS YX5_sort [(0, 2), (1, 2)] [(0, 2), (1, 2)] 0 [] [] [] [] [] sX5_sort := by
  unfold sX5_sort
  exact (okSeq (p1 := 62) (Γ1 := [(0, 2), (1, 2)]) (okSw (Γ' := [(0, 2), (1, 2)]) (p1 := 4) (df := 56) (tb := [(258, 32), (259, 40), (260, 48)]) [([258], 32, (sSeq (sPut 2 0 (eV 1) (eI 0)) sBrk)), ([259], 40, (sSeq (sPut 2 0 (eV 1) (eI 1)) sBrk)), ([260], 48, (sSeq (sPut 2 0 (eV 1) (eI 2)) sBrk))] rfl (okCallV (p1 := 1) (okCons (p1 := 1) (ok_aload_n dX5_sort_0 (.head _) rfl (.head _)) okNil) MX5_kind cf_X5_kind ci_5 rfl kc_X5_kind km_X5_47 ki_X5_kind kv_X5_kind kn_X5 (Nat.le_of_ble_eq_true rfl) (Nat.le_of_ble_eq_true rfl) dX5_sort_1 (.head _) (by decide) rfl (by decide)) (sw_table (tb := [(258, 32), (259, 40), (260, 48)]) (df := 56) (K := 3) dX5_sort_4 rfl (by decide +kernel) (by decide +kernel) (by decide +kernel))
 (okCsCons (okSeqL (E1 := [37, 62]) (Γ1 := [(0, 2), (1, 2)]) (okPut (p1 := 33) (p2 := 34) (k := 0) (ok_aload_n dX5_sort_32 (.head _) rfl (.tail _ (.head _))) (ok_iconst dX5_sort_33 (.head _) (irn (by decide) (by decide))) rfl ci_2 (by decide) kf_X5_123 rfl (fun z _ => qfit_int z) dX5_sort_34 (.head _) rfl) (List.forall_mem_cons.mpr ⟨(okGo dX5_sort_37 (tg := 62) rfl (okBrk0 (.head _))), (List.forall_mem_cons.mpr ⟨(okBrk0 (.head _)), (List.forall_mem_nil _)⟩)⟩))
 (okCsCons (okSeqL (E1 := [45, 62]) (Γ1 := [(0, 2), (1, 2)]) (okPut (p1 := 41) (p2 := 42) (k := 0) (ok_aload_n dX5_sort_40 (.head _) rfl (.tail _ (.head _))) (ok_iconst dX5_sort_41 (.head _) (irn (by decide) (by decide))) rfl ci_2 (by decide) kf_X5_123 rfl (fun z _ => qfit_int z) dX5_sort_42 (.head _) rfl) (List.forall_mem_cons.mpr ⟨(okGo dX5_sort_45 (tg := 62) rfl (okBrk0 (.head _))), (List.forall_mem_cons.mpr ⟨(okBrk0 (.head _)), (List.forall_mem_nil _)⟩)⟩))
 (okCsCons (okSeqL (E1 := [53, 62]) (Γ1 := [(0, 2), (1, 2)]) (okPut (p1 := 49) (p2 := 50) (k := 0) (ok_aload_n dX5_sort_48 (.head _) rfl (.tail _ (.head _))) (ok_iconst dX5_sort_49 (.head _) (irn (by decide) (by decide))) rfl ci_2 (by decide) kf_X5_123 rfl (fun z _ => qfit_int z) dX5_sort_50 (.head _) rfl) (List.forall_mem_cons.mpr ⟨(okGo dX5_sort_53 (tg := 62) rfl (okBrk0 (.head _))), (List.forall_mem_cons.mpr ⟨(okBrk0 (.head _)), (List.forall_mem_nil _)⟩)⟩))
 okCsNil))) (okRet (p1 := 61) (τ := 3) (okCallV (p1 := 58) (okCons (p1 := 57) (ok_aload_n dX5_sort_56 (.head _) rfl (.head _)) (okCons (p1 := 58) (ok_iconst dX5_sort_57 (.head _) (irn (by decide) (by decide))) okNil)) MX5_fail cf_X5_fail ci_5 rfl kc_X5_fail km_X5_51 ki_X5_fail kv_X5_fail kn_X5 (Nat.le_of_ble_eq_true rfl) (Nat.le_of_ble_eq_true rfl) dX5_sort_58 (.head _) (by decide) rfl (by decide)) rfl (by decide) dX5_sort_61) (by decide +kernel) (by decide +kernel))
 (okSeq (p1 := 72) (Γ1 := [(0, 2), (1, 2)]) (okPutC (p1 := 63) (p2 := 68) (p3 := 69) (k := 2) (τ := 0) (τb := 0) (ok_aload_n dX5_sort_62 (.head _) rfl (.head _)) dX5_sort_63 dX5_sort_64 (ok_iconst dX5_sort_67 (.head _) (irn (by decide) (by decide))) (s_iadd dX5_sort_68 (.head _)) rfl ci_5 (by decide) kf_X5_34 rfl (fun z _ => qfit_int z) dX5_sort_69 (.head _) rfl)
 (okRet (p1 := 73) (τ := 3) (ok_zconst dX5_sort_72 (.head _) ⟨by decide, by decide⟩) rfl (by decide) dX5_sort_73)))
def mX5_sort : QM := qM [2, 2] sX5_sort
theorem MX5_sort : MetY YX5_sort yX5_sort (some .boolean) [2, 2] mX5_sort := metY_of rfl (by decide +kernel) (.inr (.inl ⟨rfl, rfl⟩)) (by decide) oX5_sort

abbrev YX5_widths : YT := (RX5, cX5_widths, 2, 4, 86, 3)
theorem cf_X5_widths : CF yX5_widths 1 := ⟨by decide +kernel, by decide +kernel, by decide +kernel⟩
def sX5_widths : QT :=
 (sSeq (sIf (cB qne (eF 2 0 (eV 1)) (eI 2)) (sRet (eI 1)) sSkip)
 (sSeq (sPut 2 1 (eV 1) (eCallV 5 mX5_takeNumber [(eV 0), (eI 4), (eI 20)]))
 (sSeq (sIf (cB qeq (eF 2 1 (eV 1)) (eI (-1))) (sRet (eI 0)) sSkip)
 (sSeq (sPut 2 2 (eV 1) (eCallV 5 mX5_takeNumber [(eV 0), (e2 iA (eF 2 1 (eV 1)) (eI 1)), (eI 20)]))
 (sRet (eB (cB qne (eF 2 2 (eV 1)) (eI (-1)))))))))
set_option maxRecDepth 100000 in
theorem oX5_widths : OkS YX5_widths [(0, 2), (1, 2)] [(0, 2), (1, 2)] 0 [] [] [] [] [] sX5_widths := by
  unfold sX5_widths
  exact (okSeq (p1 := 10) (Γ1 := [(0, 2), (1, 2)]) (okIf (Γ' := [(0, 2), (1, 2)]) (T := [8]) (F := [10]) (okCBf (p1 := 4) (p2 := 5) (τa := 0) (τb := 0) (okF (p1 := 1) (k := 0) (ok_aload_n dX5_widths_0 (.head _) rfl (.tail _ (.head _))) ci_2 (by decide) kf_X5_123 dX5_widths_1 (.head _) rfl rfl) (ok_iconst dX5_widths_4 (.head _) (irn (by decide) (by decide))) (j_icmp_eq dX5_widths_5 rfl) nq_ne (.head _) (.head _)) (one (okRet (p1 := 9) (τ := 3) (ok_zconst dX5_widths_8 (.head _) ⟨by decide, by decide⟩) rfl (by decide) dX5_widths_9)) (fun t ht => okSkip ht))
 (okSeq (p1 := 21) (Γ1 := [(0, 2), (1, 2)]) (okPut (p1 := 11) (p2 := 18) (k := 1) (ok_aload_n dX5_widths_10 (.head _) rfl (.tail _ (.head _))) (okCallV (p1 := 15) (okCons (p1 := 12) (ok_aload_n dX5_widths_11 (.head _) rfl (.head _)) (okCons (p1 := 13) (ok_iconst dX5_widths_12 (.head _) (irn (by decide) (by decide))) (okCons (p1 := 15) (ok_bipush dX5_widths_13 (.head _) (irn4 (by decide) (by decide))) okNil))) MX5_takeNumber cf_X5_takeNumber ci_5 rfl kc_X5_takeNumber km_X5_83 ki_X5_takeNumber kv_X5_takeNumber kn_X5 (Nat.le_of_ble_eq_true rfl) (Nat.le_of_ble_eq_true rfl) dX5_widths_15 (.head _) (by decide) rfl (by decide)) rfl ci_2 (by decide) kf_X5_125 rfl (fun z _ => qfit_int z) dX5_widths_18 (.head _) rfl)
 (okSeq (p1 := 31) (Γ1 := [(0, 2), (1, 2)]) (okIf (Γ' := [(0, 2), (1, 2)]) (T := [29]) (F := [31]) (okCBf (p1 := 25) (p2 := 26) (τa := 0) (τb := 0) (okF (p1 := 22) (k := 1) (ok_aload_n dX5_widths_21 (.head _) rfl (.tail _ (.head _))) ci_2 (by decide) kf_X5_125 dX5_widths_22 (.head _) rfl rfl) (ok_iconst dX5_widths_25 (.head _) (irn (by decide) (by decide))) (j_icmp_ne dX5_widths_26 rfl) nq_eq (.head _) (.head _)) (one (okRet (p1 := 30) (τ := 3) (ok_zconst dX5_widths_29 (.head _) ⟨by decide, by decide⟩) rfl (by decide) dX5_widths_30)) (fun t ht => okSkip ht))
 (okSeq (p1 := 47) (Γ1 := [(0, 2), (1, 2)]) (okPut (p1 := 32) (p2 := 44) (k := 2) (ok_aload_n dX5_widths_31 (.head _) rfl (.tail _ (.head _))) (okCallV (p1 := 41) (okCons (p1 := 33) (ok_aload_n dX5_widths_32 (.head _) rfl (.head _)) (okCons (p1 := 39) (okE2 (p1 := 37) (p2 := 38) (τa := 0) (τb := 0) (okF (p1 := 34) (k := 1) (ok_aload_n dX5_widths_33 (.head _) rfl (.tail _ (.head _))) ci_2 (by decide) kf_X5_125 dX5_widths_34 (.head _) rfl rfl) (ok_iconst dX5_widths_37 (.head _) (irn (by decide) (by decide))) (s_iadd dX5_widths_38 (.head _))) (okCons (p1 := 41) (ok_bipush dX5_widths_39 (.head _) (irn4 (by decide) (by decide))) okNil))) MX5_takeNumber cf_X5_takeNumber ci_5 rfl kc_X5_takeNumber km_X5_83 ki_X5_takeNumber kv_X5_takeNumber kn_X5 (Nat.le_of_ble_eq_true rfl) (Nat.le_of_ble_eq_true rfl) dX5_widths_41 (.head _) (by decide) rfl (by decide)) rfl ci_2 (by decide) kf_X5_128 rfl (fun z _ => qfit_int z) dX5_widths_44 (.head _) rfl)
 (okRet (p1 := 60) (τ := 3) (okBv (pt := 55) (pf := 59) (pe := 60) (okCBf (p1 := 51) (p2 := 52) (τa := 0) (τb := 0) (okF (p1 := 48) (k := 2) (ok_aload_n dX5_widths_47 (.head _) rfl (.tail _ (.head _))) ci_2 (by decide) kf_X5_128 dX5_widths_48 (.head _) rfl rfl) (ok_iconst dX5_widths_51 (.head _) (irn (by decide) (by decide))) (j_icmp_eq dX5_widths_52 rfl) nq_ne (.head _) (.head _)) dX5_widths_55 dX5_widths_56 rfl dX5_widths_59 (.head _) (.head _)) rfl (by decide) dX5_widths_60)))))
def mX5_widths : QM := qM [2, 2] sX5_widths
theorem MX5_widths : MetY YX5_widths yX5_widths (some .boolean) [2, 2] mX5_widths := metY_of rfl (by decide +kernel) (.inr (.inl ⟨rfl, rfl⟩)) (by decide) oX5_widths

abbrev YX5_measureLine : YT := (RX5, cX5_measureLine, 3, 5, 107, 3)
theorem cf_X5_measureLine : CF yX5_measureLine 0 := ⟨by decide +kernel, by decide +kernel, by decide +kernel⟩
def sX5_measureLine : QT :=
 (sSeq (sIf (cB qge (eF 6 1 (eF 5 1 (eV 0))) (eI 4)) (sRet (eCallV 5 mX5_fail [(eV 0), (eI 4)])) sSkip)
 (sSeq (sSet 1 (eA 32 (eF 6 3 (eF 5 1 (eV 0))) (eF 6 1 (eF 5 1 (eV 0)))))
 (sSeq (sDo (eCallV 2 mX2_clear [(eV 1)]))
 (sSeq (sPutC 5 2 (eV 0) iA (eI 1))
 (sSeq (sSet 2 (eF 5 2 (eV 0)))
 (sSeq (sIf (cOr (cOr (cOr (cOr (cOr (cNot (cE (eCallV 5 mX5_newName [(eV 0)]))) (cNot (cE (eCallV 5 mX5_sort [(eV 0), (eV 1)])))) (cNot (cE (eCallV 5 mX5_widths [(eV 0), (eV 1)])))) (cNot (cE (eCallV 5 mX5_silence [(eV 0), (eV 1)])))) (cNot (cE (eCallV 5 mX5_bounds [(eV 0), (eV 1)])))) (cNot (cE (eCallV 5 mX5_take [(eV 0), (eI 59)])))) (sRet (eI 0)) sSkip)
 (sSeq (sDo (eCallV 5 mX5_remember [(eV 0), (eV 2), (eF 6 1 (eF 5 1 (eV 0)))]))
 (sSeq (sPutC 6 1 (eF 5 1 (eV 0)) iA (eI 1))
 (sRet (eI 1))))))))))
set_option maxRecDepth 100000 in
theorem oX5_measureLine : OkS YX5_measureLine [(0, 2)] [(0, 2), (1, 2), (2, 0)] 0 [] [] [] [] [] sX5_measureLine := by
  unfold sX5_measureLine
  exact (okSeq (p1 := 17) (Γ1 := [(0, 2)]) (okIf (Γ' := [(0, 2)]) (T := [11]) (F := [17]) (okCBf (p1 := 7) (p2 := 8) (τa := 0) (τb := 0) (okF (p1 := 4) (k := 1) (okF (p1 := 1) (k := 1) (ok_aload_n dX5_measureLine_0 (.head _) rfl (.head _)) ci_5 (by decide) kf_X5_25 dX5_measureLine_1 (.head _) rfl rfl) ci_6 (by decide) kf_X5_93 dX5_measureLine_4 (.head _) rfl rfl) (ok_iconst dX5_measureLine_7 (.head _) (irn (by decide) (by decide))) (j_icmp_lt dX5_measureLine_8 rfl) nq_ge (.head _) (.head _)) (one (okRet (p1 := 16) (τ := 3) (okCallV (p1 := 13) (okCons (p1 := 12) (ok_aload_n dX5_measureLine_11 (.head _) rfl (.head _)) (okCons (p1 := 13) (ok_iconst dX5_measureLine_12 (.head _) (irn (by decide) (by decide))) okNil)) MX5_fail cf_X5_fail ci_5 rfl kc_X5_fail km_X5_51 ki_X5_fail kv_X5_fail kn_X5 (Nat.le_of_ble_eq_true rfl) (Nat.le_of_ble_eq_true rfl) dX5_measureLine_13 (.head _) (by decide) rfl (by decide)) rfl (by decide) dX5_measureLine_16)) (fun t ht => okSkip ht))
 (okSeq (p1 := 33) (Γ1 := [(0, 2), (1, 2)]) (ok_astore_n (Γ' := [(0, 2), (1, 2)]) (p1 := 32) (ok_aaload (C := RX2) (by decide) rfl rfl (p1 := 24) (p2 := 31) (okF (p1 := 21) (k := 3) (okF (p1 := 18) (k := 1) (ok_aload_n dX5_measureLine_17 (.head _) rfl (.head _)) ci_5 (by decide) kf_X5_25 dX5_measureLine_18 (.head _) rfl rfl) ci_6 (by decide) kf_X5_96 dX5_measureLine_21 (.head _) rfl rfl) (okF (p1 := 28) (k := 1) (okF (p1 := 25) (k := 1) (ok_aload_n dX5_measureLine_24 (.head _) rfl (.head _)) ci_5 (by decide) kf_X5_25 dX5_measureLine_25 (.head _) rfl rfl) ci_6 (by decide) kf_X5_93 dX5_measureLine_28 (.head _) rfl rfl) dX5_measureLine_31 (.head _)) dX5_measureLine_32 rfl (by decide) (.head _) (by decide))
 (okSeq (p1 := 37) (Γ1 := [(0, 2), (1, 2)]) (okDoV (p1 := 34) (okCons (p1 := 34) (ok_aload_n dX5_measureLine_33 (.head _) rfl (.tail _ (.head _))) okNil) MX2_clear cf_X2_clear ci_2 rfl kc_X2_clear km_X5_100 ki_X2_clear kv_X2_clear kn_X2 (Nat.le_of_ble_eq_true rfl) (Nat.le_of_ble_eq_true rfl) dX5_measureLine_34 (.head _) rfl)
 (okSeq (p1 := 47) (Γ1 := [(0, 2), (1, 2)]) (okPutC (p1 := 38) (p2 := 43) (p3 := 44) (k := 2) (τ := 0) (τb := 0) (ok_aload_n dX5_measureLine_37 (.head _) rfl (.head _)) dX5_measureLine_38 dX5_measureLine_39 (ok_iconst dX5_measureLine_42 (.head _) (irn (by decide) (by decide))) (s_iadd dX5_measureLine_43 (.head _)) rfl ci_5 (by decide) kf_X5_34 rfl (fun z _ => qfit_int z) dX5_measureLine_44 (.head _) rfl)
 (okSeq (p1 := 52) (Γ1 := [(0, 2), (1, 2), (2, 0)]) (ok_istore_n (Γ' := [(0, 2), (1, 2), (2, 0)]) (p1 := 51) (τ := 0) (okF (p1 := 48) (k := 2) (ok_aload_n dX5_measureLine_47 (.head _) rfl (.head _)) ci_5 (by decide) kf_X5_34 dX5_measureLine_48 (.head _) rfl rfl) t_0 dX5_measureLine_51 rfl (by decide) (.head _) (by decide))
 (okSeq (p1 := 102) (Γ1 := [(0, 2), (1, 2), (2, 0)]) (okIf (Γ' := [(0, 2), (1, 2), (2, 0)]) (T := [100]) (F := [102]) (okOr (p1 := 91) (okOr (p1 := 83) (okOr (p1 := 75) (okOr (p1 := 67) (okOr (p1 := 59) (okNot (okCEf (p1 := 56) (okI (τ := 3) (okCallV (p1 := 53) (okCons (p1 := 53) (ok_aload_n dX5_measureLine_52 (.head _) rfl (.head _)) okNil) MX5_newName cf_X5_newName ci_5 rfl kc_X5_newName km_X5_103 ki_X5_newName kv_X5_newName kn_X5 (Nat.le_of_ble_eq_true rfl) (Nat.le_of_ble_eq_true rfl) dX5_measureLine_53 (.head _) (by decide) rfl (by decide)) t_3) (j_if_eq dX5_measureLine_56 rfl) (.head _) (.head _))) (okNot (okCEf (p1 := 64) (okI (τ := 3) (okCallV (p1 := 61) (okCons (p1 := 60) (ok_aload_n dX5_measureLine_59 (.head _) rfl (.head _)) (okCons (p1 := 61) (ok_aload_n dX5_measureLine_60 (.head _) rfl (.tail _ (.head _))) okNil)) MX5_sort cf_X5_sort ci_5 rfl kc_X5_sort km_X5_106 ki_X5_sort kv_X5_sort kn_X5 (Nat.le_of_ble_eq_true rfl) (Nat.le_of_ble_eq_true rfl) dX5_measureLine_61 (.head _) (by decide) rfl (by decide)) t_3) (j_if_eq dX5_measureLine_64 rfl) (.head _) (.head _)))) (okNot (okCEf (p1 := 72) (okI (τ := 3) (okCallV (p1 := 69) (okCons (p1 := 68) (ok_aload_n dX5_measureLine_67 (.head _) rfl (.head _)) (okCons (p1 := 69) (ok_aload_n dX5_measureLine_68 (.head _) rfl (.tail _ (.head _))) okNil)) MX5_widths cf_X5_widths ci_5 rfl kc_X5_widths km_X5_110 ki_X5_widths kv_X5_widths kn_X5 (Nat.le_of_ble_eq_true rfl) (Nat.le_of_ble_eq_true rfl) dX5_measureLine_69 (.head _) (by decide) rfl (by decide)) t_3) (j_if_eq dX5_measureLine_72 rfl) (.head _) (.head _)))) (okNot (okCEf (p1 := 80) (okI (τ := 3) (okCallV (p1 := 77) (okCons (p1 := 76) (ok_aload_n dX5_measureLine_75 (.head _) rfl (.head _)) (okCons (p1 := 77) (ok_aload_n dX5_measureLine_76 (.head _) rfl (.tail _ (.head _))) okNil)) MX5_silence cf_X5_silence ci_5 rfl kc_X5_silence km_X5_113 ki_X5_silence kv_X5_silence kn_X5 (Nat.le_of_ble_eq_true rfl) (Nat.le_of_ble_eq_true rfl) dX5_measureLine_77 (.head _) (by decide) rfl (by decide)) t_3) (j_if_eq dX5_measureLine_80 rfl) (.head _) (.head _)))) (okNot (okCEf (p1 := 88) (okI (τ := 3) (okCallV (p1 := 85) (okCons (p1 := 84) (ok_aload_n dX5_measureLine_83 (.head _) rfl (.head _)) (okCons (p1 := 85) (ok_aload_n dX5_measureLine_84 (.head _) rfl (.tail _ (.head _))) okNil)) MX5_bounds cf_X5_bounds ci_5 rfl kc_X5_bounds km_X5_116 ki_X5_bounds kv_X5_bounds kn_X5 (Nat.le_of_ble_eq_true rfl) (Nat.le_of_ble_eq_true rfl) dX5_measureLine_85 (.head _) (by decide) rfl (by decide)) t_3) (j_if_eq dX5_measureLine_88 rfl) (.head _) (.head _)))) (okNot (okCEt (p1 := 97) (okI (τ := 3) (okCallV (p1 := 94) (okCons (p1 := 92) (ok_aload_n dX5_measureLine_91 (.head _) rfl (.head _)) (okCons (p1 := 94) (ok_bipush dX5_measureLine_92 (.head _) (irn4 (by decide) (by decide))) okNil)) MX5_take cf_X5_take ci_5 rfl kc_X5_take km_X5_90 ki_X5_take kv_X5_take kn_X5 (Nat.le_of_ble_eq_true rfl) (Nat.le_of_ble_eq_true rfl) dX5_measureLine_94 (.head _) (by decide) rfl (by decide)) t_3) (j_if_ne dX5_measureLine_97 rfl) (.head _) (.head _)))) (one (okRet (p1 := 101) (τ := 3) (ok_zconst dX5_measureLine_100 (.head _) ⟨by decide, by decide⟩) rfl (by decide) dX5_measureLine_101)) (fun t ht => okSkip ht))
 (okSeq (p1 := 114) (Γ1 := [(0, 2), (1, 2), (2, 0)]) (okDoV (p1 := 111) (okCons (p1 := 103) (ok_aload_n dX5_measureLine_102 (.head _) rfl (.head _)) (okCons (p1 := 104) (ok_iload_n dX5_measureLine_103 (.head _) rfl (.tail _ (.tail _ (.head _))) t_0) (okCons (p1 := 111) (okF (p1 := 108) (k := 1) (okF (p1 := 105) (k := 1) (ok_aload_n dX5_measureLine_104 (.head _) rfl (.head _)) ci_5 (by decide) kf_X5_25 dX5_measureLine_105 (.head _) rfl rfl) ci_6 (by decide) kf_X5_93 dX5_measureLine_108 (.head _) rfl rfl) okNil))) MX5_remember cf_X5_remember ci_5 rfl kc_X5_remember km_X5_119 ki_X5_remember kv_X5_remember kn_X5 (Nat.le_of_ble_eq_true rfl) (Nat.le_of_ble_eq_true rfl) dX5_measureLine_111 (.head _) rfl)
 (okSeq (p1 := 127) (Γ1 := [(0, 2), (1, 2), (2, 0)]) (okPutC (p1 := 118) (p2 := 123) (p3 := 124) (k := 1) (τ := 0) (τb := 0) (okF (p1 := 115) (k := 1) (ok_aload_n dX5_measureLine_114 (.head _) rfl (.head _)) ci_5 (by decide) kf_X5_25 dX5_measureLine_115 (.head _) rfl rfl) dX5_measureLine_118 dX5_measureLine_119 (ok_iconst dX5_measureLine_122 (.head _) (irn (by decide) (by decide))) (s_iadd dX5_measureLine_123 (.head _)) rfl ci_6 (by decide) kf_X5_93 rfl (fun z _ => qfit_int z) dX5_measureLine_124 (.head _) rfl)
 (okRet (p1 := 128) (τ := 3) (ok_zconst dX5_measureLine_127 (.head _) ⟨by decide, by decide⟩) rfl (by decide) dX5_measureLine_128)))))))))
def mX5_measureLine : QM := qM [2] sX5_measureLine
theorem MX5_measureLine : MetY YX5_measureLine yX5_measureLine (some .boolean) [2] mX5_measureLine := metY_of rfl (by decide +kernel) (.inr (.inl ⟨rfl, rfl⟩)) (by decide) oX5_measureLine

abbrev YX1_endShow : YT := (RX1, cX1_endShow, 1, 0, 0, 9)
theorem cf_X1_endShow : CF yX1_endShow 0 := ⟨by decide +kernel, by decide +kernel, by decide +kernel⟩
def sX1_endShow : QT :=
 (sSeq (sIf (cB qlt (eF 1 0 (eV 0)) (eN (eF 1 5 (eV 0)))) (sSeq (sArr 20 (eF 1 5 (eV 0)) (eF 1 0 (eV 0)) (eF 1 2 (eV 0)))
 (sPutC 1 0 (eV 0) iA (eI 1))) sSkip)
 sRetV)
set_option maxRecDepth 100000 in
theorem oX1_endShow : OkS YX1_endShow [(0, 2)] [(0, 2)] 0 [] [] [] [] [] sX1_endShow := by
  unfold sX1_endShow
  exact (okSeq (p1 := 35) (Γ1 := [(0, 2)]) (okIf (Γ' := [(0, 2)]) (T := [12]) (F := [35]) (okCBf (p1 := 4) (p2 := 9) (τa := 0) (τb := 0) (okF (p1 := 1) (k := 0) (ok_aload_n dX1_endShow_0 (.head _) rfl (.head _)) ci_1 (by decide) kf_X1_27 dX1_endShow_1 (.head _) rfl rfl) (ok_alen (p1 := 8) (okF (p1 := 5) (k := 5) (ok_aload_n dX1_endShow_4 (.head _) rfl (.head _)) ci_1 (by decide) kf_X1_18 dX1_endShow_5 (.head _) rfl rfl) dX1_endShow_8 (.head _)) (j_icmp_ge dX1_endShow_9 rfl) nq_lt (.head _) (.head _)) (one (okSeq (p1 := 25) (Γ1 := [(0, 2)]) (okArr (p1 := 16) (p2 := 20) (p3 := 24) (by decide) (okF (p1 := 13) (k := 5) (ok_aload_n dX1_endShow_12 (.head _) rfl (.head _)) ci_1 (by decide) kf_X1_18 dX1_endShow_13 (.head _) rfl rfl) (okF (p1 := 17) (k := 0) (ok_aload_n dX1_endShow_16 (.head _) rfl (.head _)) ci_1 (by decide) kf_X1_27 dX1_endShow_17 (.head _) rfl rfl) (okF (p1 := 21) (k := 2) (ok_aload_n dX1_endShow_20 (.head _) rfl (.head _)) ci_1 (by decide) kf_X1_34 dX1_endShow_21 (.head _) rfl rfl) dX1_endShow_24 (.head _))
 (okPutC (p1 := 26) (p2 := 31) (p3 := 32) (k := 0) (τ := 0) (τb := 0) (ok_aload_n dX1_endShow_25 (.head _) rfl (.head _)) dX1_endShow_26 dX1_endShow_27 (ok_iconst dX1_endShow_30 (.head _) (irn (by decide) (by decide))) (s_iadd dX1_endShow_31 (.head _)) rfl ci_1 (by decide) kf_X1_27 rfl (fun z _ => qfit_int z) dX1_endShow_32 (.head _) rfl))) (fun t ht => okSkip ht))
 (okRetV rfl dX1_endShow_35))
def mX1_endShow : QM := qM [2] sX1_endShow
theorem MX1_endShow : MetY YX1_endShow yX1_endShow none [2] mX1_endShow := metY_of rfl (by decide +kernel) (.inr (.inr (.inr (.inl ⟨rfl, rfl⟩)))) (by decide) oX1_endShow

abbrev YX5_await : YT := (RX5, cX5_await, 2, 0, 0, 9)
theorem cf_X5_await : CF yX5_await 1 := ⟨by decide +kernel, by decide +kernel, by decide +kernel⟩
def sX5_await : QT :=
 (sSeq (sIf (cB qlt (eF 5 9 (eV 0)) (eN (eF 5 8 (eV 0)))) (sSeq (sArr 20 (eF 5 8 (eV 0)) (eF 5 9 (eV 0)) (eV 1))
 (sPutC 5 9 (eV 0) iA (eI 1))) sSkip)
 sRetV)
set_option maxRecDepth 100000 in
theorem oX5_await : OkS YX5_await [(0, 2), (1, 0)] [(0, 2), (1, 0)] 0 [] [] [] [] [] sX5_await := by
  unfold sX5_await
  exact (okSeq (p1 := 32) (Γ1 := [(0, 2), (1, 0)]) (okIf (Γ' := [(0, 2), (1, 0)]) (T := [12]) (F := [32]) (okCBf (p1 := 4) (p2 := 9) (τa := 0) (τb := 0) (okF (p1 := 1) (k := 9) (ok_aload_n dX5_await_0 (.head _) rfl (.head _)) ci_5 (by decide) kf_X5_204 dX5_await_1 (.head _) rfl rfl) (ok_alen (p1 := 8) (okF (p1 := 5) (k := 8) (ok_aload_n dX5_await_4 (.head _) rfl (.head _)) ci_5 (by decide) kf_X5_18 dX5_await_5 (.head _) rfl rfl) dX5_await_8 (.head _)) (j_icmp_ge dX5_await_9 rfl) nq_lt (.head _) (.head _)) (one (okSeq (p1 := 22) (Γ1 := [(0, 2), (1, 0)]) (okArr (p1 := 16) (p2 := 20) (p3 := 21) (by decide) (okF (p1 := 13) (k := 8) (ok_aload_n dX5_await_12 (.head _) rfl (.head _)) ci_5 (by decide) kf_X5_18 dX5_await_13 (.head _) rfl rfl) (okF (p1 := 17) (k := 9) (ok_aload_n dX5_await_16 (.head _) rfl (.head _)) ci_5 (by decide) kf_X5_204 dX5_await_17 (.head _) rfl rfl) (ok_iload_n dX5_await_20 (.head _) rfl (.tail _ (.head _)) t_0) dX5_await_21 (.head _))
 (okPutC (p1 := 23) (p2 := 28) (p3 := 29) (k := 9) (τ := 0) (τb := 0) (ok_aload_n dX5_await_22 (.head _) rfl (.head _)) dX5_await_23 dX5_await_24 (ok_iconst dX5_await_27 (.head _) (irn (by decide) (by decide))) (s_iadd dX5_await_28 (.head _)) rfl ci_5 (by decide) kf_X5_204 rfl (fun z _ => qfit_int z) dX5_await_29 (.head _) rfl))) (fun t ht => okSkip ht))
 (okRetV rfl dX5_await_32))
def mX5_await : QM := qM [2, 0] sX5_await
theorem MX5_await : MetY YX5_await yX5_await none [2, 0] mX5_await := metY_of rfl (by decide +kernel) (.inr (.inr (.inr (.inl ⟨rfl, rfl⟩)))) (by decide) oX5_await

abbrev YX5_rank : YT := (RX5, cX5_rank, 1, 0, 0, 0)
theorem cf_X5_rank : CF yX5_rank 1 := ⟨by decide +kernel, by decide +kernel, by decide +kernel⟩
def sX5_rank : QT :=
 (sSw (eV 0) [([42, 47], (sRet (eI 3))), ([43, 45], (sRet (eI 2))), ([273], (sRet (eI 1)))] (sRet (eI 0)))
set_option maxRecDepth 100000 in
theorem oX5_rank : OkS YX5_rank [(0, 0)] [(0, 0)] 0 [] [] [] [] [] sX5_rank := by
  unfold sX5_rank
  exact (okSw (Γ' := [(0, 0)]) (p1 := 1) (df := 58) (tb := [(42, 52), (43, 54), (45, 54), (47, 52), (273, 56)]) [([42, 47], 52, (sRet (eI 3))), ([43, 45], 54, (sRet (eI 2))), ([273], 56, (sRet (eI 1)))] rfl (ok_iload_n dX5_rank_0 (.head _) rfl (.head _) t_0) (sw_look (tb := [(42, 52), (43, 54), (45, 54), (47, 52), (273, 56)]) (df := 58) dX5_rank_1 (by decide +kernel) rfl (by decide +kernel))
 (okCsCons (okRet (p1 := 53) (τ := 0) (ok_iconst dX5_rank_52 (.head _) (irn (by decide) (by decide))) rfl (by decide) dX5_rank_53)
 (okCsCons (okRet (p1 := 55) (τ := 0) (ok_iconst dX5_rank_54 (.head _) (irn (by decide) (by decide))) rfl (by decide) dX5_rank_55)
 (okCsCons (okRet (p1 := 57) (τ := 0) (ok_iconst dX5_rank_56 (.head _) (irn (by decide) (by decide))) rfl (by decide) dX5_rank_57)
 okCsNil))) (okRet (p1 := 59) (τ := 0) (ok_iconst dX5_rank_58 (.head _) (irn (by decide) (by decide))) rfl (by decide) dX5_rank_59) (by decide +kernel) (by decide +kernel))
def mX5_rank : QM := qM [0] sX5_rank
theorem MX5_rank : MetY YX5_rank yX5_rank (some .int) [0] mX5_rank := metY_of rfl (by decide +kernel) (.inl ⟨rfl, rfl⟩) (by decide) oX5_rank

abbrev YX1_put : YT := (RX1, cX1_put, 3, 0, 0, 9)
theorem cf_X1_put : CF yX1_put 2 := ⟨by decide +kernel, by decide +kernel, by decide +kernel⟩
def sX1_put : QT :=
 (sSeq (sIf (cB qlt (eF 1 2 (eV 0)) (eN (eF 1 3 (eV 0)))) (sSeq (sArr 20 (eF 1 3 (eV 0)) (eF 1 2 (eV 0)) (eV 1))
 (sSeq (sArr 20 (eF 1 4 (eV 0)) (eF 1 2 (eV 0)) (eV 2))
 (sPutC 1 2 (eV 0) iA (eI 1)))) sSkip)
 sRetV)
set_option maxRecDepth 100000 in
theorem oX1_put : OkS YX1_put [(0, 2), (1, 0), (2, 0)] [(0, 2), (1, 0), (2, 0)] 0 [] [] [] [] [] sX1_put := by
  unfold sX1_put
  exact (okSeq (p1 := 42) (Γ1 := [(0, 2), (1, 0), (2, 0)]) (okIf (Γ' := [(0, 2), (1, 0), (2, 0)]) (T := [12]) (F := [42]) (okCBf (p1 := 4) (p2 := 9) (τa := 0) (τb := 0) (okF (p1 := 1) (k := 2) (ok_aload_n dX1_put_0 (.head _) rfl (.head _)) ci_1 (by decide) kf_X1_34 dX1_put_1 (.head _) rfl rfl) (ok_alen (p1 := 8) (okF (p1 := 5) (k := 3) (ok_aload_n dX1_put_4 (.head _) rfl (.head _)) ci_1 (by decide) kf_X1_9 dX1_put_5 (.head _) rfl rfl) dX1_put_8 (.head _)) (j_icmp_ge dX1_put_9 rfl) nq_lt (.head _) (.head _)) (one (okSeq (p1 := 22) (Γ1 := [(0, 2), (1, 0), (2, 0)]) (okArr (p1 := 16) (p2 := 20) (p3 := 21) (by decide) (okF (p1 := 13) (k := 3) (ok_aload_n dX1_put_12 (.head _) rfl (.head _)) ci_1 (by decide) kf_X1_9 dX1_put_13 (.head _) rfl rfl) (okF (p1 := 17) (k := 2) (ok_aload_n dX1_put_16 (.head _) rfl (.head _)) ci_1 (by decide) kf_X1_34 dX1_put_17 (.head _) rfl rfl) (ok_iload_n dX1_put_20 (.head _) rfl (.tail _ (.head _)) t_0) dX1_put_21 (.head _))
 (okSeq (p1 := 32) (Γ1 := [(0, 2), (1, 0), (2, 0)]) (okArr (p1 := 26) (p2 := 30) (p3 := 31) (by decide) (okF (p1 := 23) (k := 4) (ok_aload_n dX1_put_22 (.head _) rfl (.head _)) ci_1 (by decide) kf_X1_15 dX1_put_23 (.head _) rfl rfl) (okF (p1 := 27) (k := 2) (ok_aload_n dX1_put_26 (.head _) rfl (.head _)) ci_1 (by decide) kf_X1_34 dX1_put_27 (.head _) rfl rfl) (ok_iload_n dX1_put_30 (.head _) rfl (.tail _ (.tail _ (.head _))) t_0) dX1_put_31 (.head _))
 (okPutC (p1 := 33) (p2 := 38) (p3 := 39) (k := 2) (τ := 0) (τb := 0) (ok_aload_n dX1_put_32 (.head _) rfl (.head _)) dX1_put_33 dX1_put_34 (ok_iconst dX1_put_37 (.head _) (irn (by decide) (by decide))) (s_iadd dX1_put_38 (.head _)) rfl ci_1 (by decide) kf_X1_34 rfl (fun z _ => qfit_int z) dX1_put_39 (.head _) rfl)))) (fun t ht => okSkip ht))
 (okRetV rfl dX1_put_42))
def mX1_put : QM := qM [2, 0, 0] sX1_put
theorem MX1_put : MetY YX1_put yX1_put none [2, 0, 0] mX1_put := metY_of rfl (by decide +kernel) (.inr (.inr (.inr (.inl ⟨rfl, rfl⟩)))) (by decide) oX1_put

abbrev YX5_release : YT := (RX5, cX5_release, 2, 1, 22, 9)
theorem cf_X5_release : CF yX5_release 1 := ⟨by decide +kernel, by decide +kernel, by decide +kernel⟩
def cX5_release_1 : QC :=
 (cAnd (cB qgt (eF 5 9 (eV 0)) (eI 0)) (cB qge (eCall mX5_rank [(eA 20 (eF 5 8 (eV 0)) (e2 iS (eF 5 9 (eV 0)) (eI 1)))]) (eV 1)))
def bX5_release_1 : QT :=
 (sSeq (sPutC 5 9 (eV 0) iS (eI 1))
 (sDo (eCallV 1 mX1_put [(eF 6 5 (eF 5 1 (eV 0))), (eA 20 (eF 5 8 (eV 0)) (eF 5 9 (eV 0))), (eI 0)])))
def uX5_release_1 : QT :=
 sSkip
set_option maxRecDepth 100000 in
theorem obX5_release_1 : OkS YX5_release [(0, 2), (1, 0)] [(0, 2), (1, 0)] 25 [55, 0] [(0, 2), (1, 0)] [58] [(0, 2), (1, 0)] [55, 0] bX5_release_1 := by
  unfold bX5_release_1
  exact (okSeq (p1 := 35) (Γ1 := [(0, 2), (1, 0)]) (okPutC (p1 := 26) (p2 := 31) (p3 := 32) (k := 9) (τ := 0) (τb := 0) (ok_aload_n dX5_release_25 (.head _) rfl (.head _)) dX5_release_26 dX5_release_27 (ok_iconst dX5_release_30 (.head _) (irn (by decide) (by decide))) (s_isub dX5_release_31 (.head _)) rfl ci_5 (by decide) kf_X5_204 rfl (fun z _ => qfit_int z) dX5_release_32 (.head _) rfl)
 (okDoV (p1 := 52) (okCons (p1 := 42) (okF (p1 := 39) (k := 5) (okF (p1 := 36) (k := 1) (ok_aload_n dX5_release_35 (.head _) rfl (.head _)) ci_5 (by decide) kf_X5_25 dX5_release_36 (.head _) rfl rfl) ci_6 (by decide) kf_X5_185 dX5_release_39 (.head _) rfl rfl) (okCons (p1 := 51) (ok_iaload (.inl rfl) (p1 := 46) (p2 := 50) (okF (p1 := 43) (k := 8) (ok_aload_n dX5_release_42 (.head _) rfl (.head _)) ci_5 (by decide) kf_X5_18 dX5_release_43 (.head _) rfl rfl) (okF (p1 := 47) (k := 9) (ok_aload_n dX5_release_46 (.head _) rfl (.head _)) ci_5 (by decide) kf_X5_204 dX5_release_47 (.head _) rfl rfl) dX5_release_50 (.head _)) (okCons (p1 := 52) (ok_iconst dX5_release_51 (.head _) (irn (by decide) (by decide))) okNil))) MX1_put cf_X1_put ci_1 rfl kc_X1_put km_X5_223 ki_X1_put kv_X1_put kn_X1 (Nat.le_of_ble_eq_true rfl) (Nat.le_of_ble_eq_true rfl) dX5_release_52 (.head _) rfl))
set_option maxRecDepth 100000 in
theorem ocX5_release_1 : OkC YX5_release [(0, 2), (1, 0)] 0 0 [25] [58] cX5_release_1 := by
  unfold cX5_release_1
  exact (okAnd (p1 := 7) (okCZf (p1 := 4) (τa := 0) (okF (p1 := 1) (k := 9) (ok_aload_n dX5_release_0 (.head _) rfl (.head _)) ci_5 (by decide) kf_X5_204 dX5_release_1 (.head _) rfl rfl) (j_if_le dX5_release_4 rfl) nq_gt (.head _) (.head _)) (okCBf (p1 := 21) (p2 := 22) (τa := 0) (τb := 0) (okCallS (p1 := 18) (okCons (p1 := 18) (ok_iaload (.inl rfl) (p1 := 11) (p2 := 17) (okF (p1 := 8) (k := 8) (ok_aload_n dX5_release_7 (.head _) rfl (.head _)) ci_5 (by decide) kf_X5_18 dX5_release_8 (.head _) rfl rfl) (okE2 (p1 := 15) (p2 := 16) (τa := 0) (τb := 0) (okF (p1 := 12) (k := 9) (ok_aload_n dX5_release_11 (.head _) rfl (.head _)) ci_5 (by decide) kf_X5_204 dX5_release_12 (.head _) rfl rfl) (ok_iconst dX5_release_15 (.head _) (irn (by decide) (by decide))) (s_isub dX5_release_16 (.head _))) dX5_release_17 (.head _)) okNil) MX5_rank cf_X5_rank rfl kc_X5_rank km_X5_210 ks_X5_rank kn_X5 (Nat.le_of_ble_eq_true rfl) (Nat.le_of_ble_eq_true rfl) dX5_release_18 (.head _) (by decide) rfl (by decide)) (ok_iload_n dX5_release_21 (.head _) rfl (.tail _ (.head _)) t_0) (j_icmp_lt dX5_release_22 rfl) nq_ge (.head _) (.head _)))
set_option maxRecDepth 100000 in
theorem ouX5_release_1 : ∀ t ∈ ([55, 0] : List Nat), OkS YX5_release [(0, 2), (1, 0)] [(0, 2), (1, 0)] t [0] [] [] [] [] uX5_release_1 := by
  unfold uX5_release_1
  exact (List.forall_mem_cons.mpr ⟨okGo dX5_release_55 (tg := 0) rfl (okSkip (.head _)), one (okSkip (.head _))⟩)
def sX5_release : QT :=
 (sSeq (sWhile cX5_release_1 bX5_release_1 uX5_release_1)
 sRetV)
set_option maxRecDepth 100000 in
theorem oX5_release : OkS YX5_release [(0, 2), (1, 0)] [(0, 2), (1, 0)] 0 [] [] [] [] [] sX5_release := by
  unfold sX5_release
  exact (okSeq (p1 := 58) (Γ1 := [(0, 2), (1, 0)]) (okWhile (T := [25]) (F := [58]) (Eb := [55, 0]) ocX5_release_1 (fun _ h => h) (one obX5_release_1) ouX5_release_1)
 (okRetV rfl dX5_release_58))
def mX5_release : QM := qM [2, 0] sX5_release
theorem MX5_release : MetY YX5_release yX5_release none [2, 0] mX5_release := metY_of rfl (by decide +kernel) (.inr (.inr (.inr (.inl ⟨rfl, rfl⟩)))) (by decide) oX5_release

abbrev YX5_unit : YT := (RX5, cX5_unit, 5, 3, 66, 3)
theorem cf_X5_unit : CF yX5_unit 1 := ⟨by decide +kernel, by decide +kernel, by decide +kernel⟩
def sX5_unit : QT :=
 (sSeq (sSet 2 (eCallV 5 mX5_kind [(eV 0)]))
 (sSeq (sIf (cAnd (cAnd (cB qne (eV 2) (eI 3)) (cB qne (eV 2) (eI 4))) (cB qne (eV 2) (eI 40))) (sRet (eCallV 5 mX5_fail [(eV 0), (eI 1)])) sSkip)
 (sSeq (sSet 3 (eIf (cB qeq (eV 2) (eI 3)) (eCallV 10 mX10_numberOf [(eF 5 0 (eV 0)), (eF 5 2 (eV 0))]) (eI 0)))
 (sSeq (sIf (cB qgt (eV 3) (eI 9999)) (sRet (eCallV 5 mX5_fail [(eV 0), (eI 2)])) sSkip)
 (sSeq (sSet 4 (eIf (cB qeq (eV 2) (eI 4)) (eCallV 5 mX5_bearerHere [(eV 0)]) (eI 0)))
 (sSeq (sIf (cB qeq (eV 4) (eI (-1))) (sRet (eCallV 5 mX5_fail [(eV 0), (eI 3)])) sSkip)
 (sSeq (sIf (cOr (cB qge (eF 1 1 (eF 6 5 (eF 5 1 (eV 0)))) (eI 30)) (cB qgt (eV 1) (eI 4))) (sRet (eCallV 5 mX5_fail [(eV 0), (eI 4)])) sSkip)
 (sSeq (sPutC 1 1 (eF 6 5 (eF 5 1 (eV 0))) iA (eI 1))
 (sSeq (sIf (cB qeq (eV 2) (eI 40)) (sDo (eCallV 5 mX5_await [(eV 0), (eV 2)])) (sIf (cB qeq (eV 2) (eI 3)) (sDo (eCallV 1 mX1_put [(eF 6 5 (eF 5 1 (eV 0))), (eI 1), (e2 iM (eV 3) (eI 1000))])) (sIf (cB qlt (eV 4) (eI 4)) (sDo (eCallV 1 mX1_put [(eF 6 5 (eF 5 1 (eV 0))), (eI 2), (eV 4)])) (sDo (eCallV 1 mX1_put [(eF 6 5 (eF 5 1 (eV 0))), (eI 3), (e2 iS (eV 4) (eI 4))])))))
 (sRet (eI 1)))))))))))
set_option maxRecDepth 100000 in
theorem oX5_unit : OkS YX5_unit [(0, 2), (1, 0)] [(0, 2), (1, 0), (2, 0), (3, 0), (4, 0)] 0 [] [] [] [] [] sX5_unit := by
  unfold sX5_unit
  exact (okSeq (p1 := 5) (Γ1 := [(0, 2), (1, 0), (2, 0)]) (ok_istore_n (Γ' := [(0, 2), (1, 0), (2, 0)]) (p1 := 4) (τ := 0) (okCallV (p1 := 1) (okCons (p1 := 1) (ok_aload_n dX5_unit_0 (.head _) rfl (.head _)) okNil) MX5_kind cf_X5_kind ci_5 rfl kc_X5_kind km_X5_47 ki_X5_kind kv_X5_kind kn_X5 (Nat.le_of_ble_eq_true rfl) (Nat.le_of_ble_eq_true rfl) dX5_unit_1 (.head _) (by decide) rfl (by decide)) t_0 dX5_unit_4 rfl (by decide) (.head _) (by decide))
 (okSeq (p1 := 27) (Γ1 := [(0, 2), (1, 0), (2, 0)]) (okIf (Γ' := [(0, 2), (1, 0), (2, 0)]) (T := [21]) (F := [27]) (okAnd (p1 := 15) (okAnd (p1 := 10) (okCBf (p1 := 6) (p2 := 7) (τa := 0) (τb := 0) (ok_iload_n dX5_unit_5 (.head _) rfl (.tail _ (.tail _ (.head _))) t_0) (ok_iconst dX5_unit_6 (.head _) (irn (by decide) (by decide))) (j_icmp_eq dX5_unit_7 rfl) nq_ne (.head _) (.head _)) (okCBf (p1 := 11) (p2 := 12) (τa := 0) (τb := 0) (ok_iload_n dX5_unit_10 (.head _) rfl (.tail _ (.tail _ (.head _))) t_0) (ok_iconst dX5_unit_11 (.head _) (irn (by decide) (by decide))) (j_icmp_eq dX5_unit_12 rfl) nq_ne (.head _) (.head _))) (okCBf (p1 := 16) (p2 := 18) (τa := 0) (τb := 0) (ok_iload_n dX5_unit_15 (.head _) rfl (.tail _ (.tail _ (.head _))) t_0) (ok_bipush dX5_unit_16 (.head _) (irn4 (by decide) (by decide))) (j_icmp_eq dX5_unit_18 rfl) nq_ne (.head _) (.head _))) (one (okRet (p1 := 26) (τ := 3) (okCallV (p1 := 23) (okCons (p1 := 22) (ok_aload_n dX5_unit_21 (.head _) rfl (.head _)) (okCons (p1 := 23) (ok_iconst dX5_unit_22 (.head _) (irn (by decide) (by decide))) okNil)) MX5_fail cf_X5_fail ci_5 rfl kc_X5_fail km_X5_51 ki_X5_fail kv_X5_fail kn_X5 (Nat.le_of_ble_eq_true rfl) (Nat.le_of_ble_eq_true rfl) dX5_unit_23 (.head _) (by decide) rfl (by decide)) rfl (by decide) dX5_unit_26)) (fun t ht => okSkip ht))
 (okSeq (p1 := 48) (Γ1 := [(0, 2), (1, 0), (2, 0), (3, 0)]) (ok_istore_n (Γ' := [(0, 2), (1, 0), (2, 0), (3, 0)]) (p1 := 47) (τ := 0) (okIfE (pt := 32) (pf := 46) (p1 := 43) (pe := 47) (okCBf (p1 := 28) (p2 := 29) (τa := 0) (τb := 0) (ok_iload_n dX5_unit_27 (.head _) rfl (.tail _ (.tail _ (.head _))) t_0) (ok_iconst dX5_unit_28 (.head _) (irn (by decide) (by decide))) (j_icmp_ne dX5_unit_29 rfl) nq_eq (.head _) (.head _)) (okCallV (p1 := 40) (okCons (p1 := 36) (okF (p1 := 33) (k := 0) (ok_aload_n dX5_unit_32 (.head _) rfl (.head _)) ci_5 (by decide) kf_X5_21 dX5_unit_33 (.head _) rfl rfl) (okCons (p1 := 40) (okF (p1 := 37) (k := 2) (ok_aload_n dX5_unit_36 (.head _) rfl (.head _)) ci_5 (by decide) kf_X5_34 dX5_unit_37 (.head _) rfl rfl) okNil)) MX10_numberOf cf_X10_numberOf ci_10 rfl kc_X10_numberOf km_X5_80 ki_X10_numberOf kv_X10_numberOf kn_X10 (Nat.le_of_ble_eq_true rfl) (Nat.le_of_ble_eq_true rfl) dX5_unit_40 (.head _) (by decide) rfl (by decide)) dX5_unit_43 rfl (.head _) (ok_iconst dX5_unit_46 (.head _) (irn (by decide) (by decide)))) t_0 dX5_unit_47 rfl (by decide) (.head _) (by decide))
 (okSeq (p1 := 61) (Γ1 := [(0, 2), (1, 0), (2, 0), (3, 0)]) (okIf (Γ' := [(0, 2), (1, 0), (2, 0), (3, 0)]) (T := [55]) (F := [61]) (okCBf (p1 := 49) (p2 := 52) (τa := 0) (τb := 0) (ok_iload_n dX5_unit_48 (.head _) rfl (.tail _ (.tail _ (.tail _ (.head _)))) t_0) (ok_sipush dX5_unit_49 (.head _) ⟨by decide, by decide⟩) (j_icmp_le dX5_unit_52 rfl) nq_gt (.head _) (.head _)) (one (okRet (p1 := 60) (τ := 3) (okCallV (p1 := 57) (okCons (p1 := 56) (ok_aload_n dX5_unit_55 (.head _) rfl (.head _)) (okCons (p1 := 57) (ok_iconst dX5_unit_56 (.head _) (irn (by decide) (by decide))) okNil)) MX5_fail cf_X5_fail ci_5 rfl kc_X5_fail km_X5_51 ki_X5_fail kv_X5_fail kn_X5 (Nat.le_of_ble_eq_true rfl) (Nat.le_of_ble_eq_true rfl) dX5_unit_57 (.head _) (by decide) rfl (by decide)) rfl (by decide) dX5_unit_60)) (fun t ht => okSkip ht))
 (okSeq (p1 := 76) (Γ1 := [(0, 2), (1, 0), (2, 0), (3, 0), (4, 0)]) (ok_istore (Γ' := [(0, 2), (1, 0), (2, 0), (3, 0), (4, 0)]) (p1 := 74) (τ := 0) (okIfE (pt := 66) (pf := 73) (p1 := 70) (pe := 74) (okCBf (p1 := 62) (p2 := 63) (τa := 0) (τb := 0) (ok_iload_n dX5_unit_61 (.head _) rfl (.tail _ (.tail _ (.head _))) t_0) (ok_iconst dX5_unit_62 (.head _) (irn (by decide) (by decide))) (j_icmp_ne dX5_unit_63 rfl) nq_eq (.head _) (.head _)) (okCallV (p1 := 67) (okCons (p1 := 67) (ok_aload_n dX5_unit_66 (.head _) rfl (.head _)) okNil) MX5_bearerHere cf_X5_bearerHere ci_5 rfl kc_X5_bearerHere km_X5_164 ki_X5_bearerHere kv_X5_bearerHere kn_X5 (Nat.le_of_ble_eq_true rfl) (Nat.le_of_ble_eq_true rfl) dX5_unit_67 (.head _) (by decide) rfl (by decide)) dX5_unit_70 rfl (.head _) (ok_iconst dX5_unit_73 (.head _) (irn (by decide) (by decide)))) t_0 dX5_unit_74 (by decide) (.head _) (by decide))
 (okSeq (p1 := 88) (Γ1 := [(0, 2), (1, 0), (2, 0), (3, 0), (4, 0)]) (okIf (Γ' := [(0, 2), (1, 0), (2, 0), (3, 0), (4, 0)]) (T := [82]) (F := [88]) (okCBf (p1 := 78) (p2 := 79) (τa := 0) (τb := 0) (ok_iload dX5_unit_76 (.head _) (.tail _ (.tail _ (.tail _ (.tail _ (.head _))))) t_0) (ok_iconst dX5_unit_78 (.head _) (irn (by decide) (by decide))) (j_icmp_ne dX5_unit_79 rfl) nq_eq (.head _) (.head _)) (one (okRet (p1 := 87) (τ := 3) (okCallV (p1 := 84) (okCons (p1 := 83) (ok_aload_n dX5_unit_82 (.head _) rfl (.head _)) (okCons (p1 := 84) (ok_iconst dX5_unit_83 (.head _) (irn (by decide) (by decide))) okNil)) MX5_fail cf_X5_fail ci_5 rfl kc_X5_fail km_X5_51 ki_X5_fail kv_X5_fail kn_X5 (Nat.le_of_ble_eq_true rfl) (Nat.le_of_ble_eq_true rfl) dX5_unit_84 (.head _) (by decide) rfl (by decide)) rfl (by decide) dX5_unit_87)) (fun t ht => okSkip ht))
 (okSeq (p1 := 114) (Γ1 := [(0, 2), (1, 0), (2, 0), (3, 0), (4, 0)]) (okIf (Γ' := [(0, 2), (1, 0), (2, 0), (3, 0), (4, 0)]) (T := [108]) (F := [114]) (okOr (p1 := 103) (okCBt (p1 := 98) (p2 := 100) (τa := 0) (τb := 0) (okF (p1 := 95) (k := 1) (okF (p1 := 92) (k := 5) (okF (p1 := 89) (k := 1) (ok_aload_n dX5_unit_88 (.head _) rfl (.head _)) ci_5 (by decide) kf_X5_25 dX5_unit_89 (.head _) rfl rfl) ci_6 (by decide) kf_X5_185 dX5_unit_92 (.head _) rfl rfl) ci_1 (by decide) kf_X5_220 dX5_unit_95 (.head _) rfl rfl) (ok_bipush dX5_unit_98 (.head _) (irn4 (by decide) (by decide))) (j_icmp_ge dX5_unit_100 rfl) (.head _) (.head _)) (okCBf (p1 := 104) (p2 := 105) (τa := 0) (τb := 0) (ok_iload_n dX5_unit_103 (.head _) rfl (.tail _ (.head _)) t_0) (ok_iconst dX5_unit_104 (.head _) (irn (by decide) (by decide))) (j_icmp_le dX5_unit_105 rfl) nq_gt (.head _) (.head _))) (one (okRet (p1 := 113) (τ := 3) (okCallV (p1 := 110) (okCons (p1 := 109) (ok_aload_n dX5_unit_108 (.head _) rfl (.head _)) (okCons (p1 := 110) (ok_iconst dX5_unit_109 (.head _) (irn (by decide) (by decide))) okNil)) MX5_fail cf_X5_fail ci_5 rfl kc_X5_fail km_X5_51 ki_X5_fail kv_X5_fail kn_X5 (Nat.le_of_ble_eq_true rfl) (Nat.le_of_ble_eq_true rfl) dX5_unit_110 (.head _) (by decide) rfl (by decide)) rfl (by decide) dX5_unit_113)) (fun t ht => okSkip ht))
 (okSeq (p1 := 130) (Γ1 := [(0, 2), (1, 0), (2, 0), (3, 0), (4, 0)]) (okPutC (p1 := 121) (p2 := 126) (p3 := 127) (k := 1) (τ := 0) (τb := 0) (okF (p1 := 118) (k := 5) (okF (p1 := 115) (k := 1) (ok_aload_n dX5_unit_114 (.head _) rfl (.head _)) ci_5 (by decide) kf_X5_25 dX5_unit_115 (.head _) rfl rfl) ci_6 (by decide) kf_X5_185 dX5_unit_118 (.head _) rfl rfl) dX5_unit_121 dX5_unit_122 (ok_iconst dX5_unit_125 (.head _) (irn (by decide) (by decide))) (s_iadd dX5_unit_126 (.head _)) rfl ci_1 (by decide) kf_X5_220 rfl (fun z _ => qfit_int z) dX5_unit_127 (.head _) rfl)
 (okSeq (p1 := 205) (Γ1 := [(0, 2), (1, 0), (2, 0), (3, 0), (4, 0)]) (okIf (Γ' := [(0, 2), (1, 0), (2, 0), (3, 0), (4, 0)]) (T := [136]) (F := [144]) (okCBf (p1 := 131) (p2 := 133) (τa := 0) (τb := 0) (ok_iload_n dX5_unit_130 (.head _) rfl (.tail _ (.tail _ (.head _))) t_0) (ok_bipush dX5_unit_131 (.head _) (irn4 (by decide) (by decide))) (j_icmp_ne dX5_unit_133 rfl) nq_eq (.head _) (.head _)) (one (okEnd (p1 := 141) (tg := 205) (okDoV (p1 := 138) (okCons (p1 := 137) (ok_aload_n dX5_unit_136 (.head _) rfl (.head _)) (okCons (p1 := 138) (ok_iload_n dX5_unit_137 (.head _) rfl (.tail _ (.tail _ (.head _))) t_0) okNil)) MX5_await cf_X5_await ci_5 rfl kc_X5_await km_X5_217 ki_X5_await kv_X5_await kn_X5 (Nat.le_of_ble_eq_true rfl) (Nat.le_of_ble_eq_true rfl) dX5_unit_138 (.head _) rfl) dX5_unit_141 rfl (.head _))) (one (okIf (Γ' := [(0, 2), (1, 0), (2, 0), (3, 0), (4, 0)]) (T := [149]) (F := [168]) (okCBf (p1 := 145) (p2 := 146) (τa := 0) (τb := 0) (ok_iload_n dX5_unit_144 (.head _) rfl (.tail _ (.tail _ (.head _))) t_0) (ok_iconst dX5_unit_145 (.head _) (irn (by decide) (by decide))) (j_icmp_ne dX5_unit_146 rfl) nq_eq (.head _) (.head _)) (one (okEnd (p1 := 165) (tg := 205) (okDoV (p1 := 162) (okCons (p1 := 156) (okF (p1 := 153) (k := 5) (okF (p1 := 150) (k := 1) (ok_aload_n dX5_unit_149 (.head _) rfl (.head _)) ci_5 (by decide) kf_X5_25 dX5_unit_150 (.head _) rfl rfl) ci_6 (by decide) kf_X5_185 dX5_unit_153 (.head _) rfl rfl) (okCons (p1 := 157) (ok_iconst dX5_unit_156 (.head _) (irn (by decide) (by decide))) (okCons (p1 := 162) (okE2 (p1 := 158) (p2 := 161) (τa := 0) (τb := 0) (ok_iload_n dX5_unit_157 (.head _) rfl (.tail _ (.tail _ (.tail _ (.head _)))) t_0) (ok_sipush dX5_unit_158 (.head _) ⟨by decide, by decide⟩) (s_imul dX5_unit_161 (.head _))) okNil))) MX1_put cf_X1_put ci_1 rfl kc_X1_put km_X5_223 ki_X1_put kv_X1_put kn_X1 (Nat.le_of_ble_eq_true rfl) (Nat.le_of_ble_eq_true rfl) dX5_unit_162 (.head _) rfl) dX5_unit_165 rfl (.head _))) (one (okIf (Γ' := [(0, 2), (1, 0), (2, 0), (3, 0), (4, 0)]) (T := [174]) (F := [190]) (okCBf (p1 := 170) (p2 := 171) (τa := 0) (τb := 0) (ok_iload dX5_unit_168 (.head _) (.tail _ (.tail _ (.tail _ (.tail _ (.head _))))) t_0) (ok_iconst dX5_unit_170 (.head _) (irn (by decide) (by decide))) (j_icmp_ge dX5_unit_171 rfl) nq_lt (.head _) (.head _)) (one (okEnd (p1 := 187) (tg := 205) (okDoV (p1 := 184) (okCons (p1 := 181) (okF (p1 := 178) (k := 5) (okF (p1 := 175) (k := 1) (ok_aload_n dX5_unit_174 (.head _) rfl (.head _)) ci_5 (by decide) kf_X5_25 dX5_unit_175 (.head _) rfl rfl) ci_6 (by decide) kf_X5_185 dX5_unit_178 (.head _) rfl rfl) (okCons (p1 := 182) (ok_iconst dX5_unit_181 (.head _) (irn (by decide) (by decide))) (okCons (p1 := 184) (ok_iload dX5_unit_182 (.head _) (.tail _ (.tail _ (.tail _ (.tail _ (.head _))))) t_0) okNil))) MX1_put cf_X1_put ci_1 rfl kc_X1_put km_X5_223 ki_X1_put kv_X1_put kn_X1 (Nat.le_of_ble_eq_true rfl) (Nat.le_of_ble_eq_true rfl) dX5_unit_184 (.head _) rfl) dX5_unit_187 rfl (.head _))) (one (okDoV (p1 := 202) (okCons (p1 := 197) (okF (p1 := 194) (k := 5) (okF (p1 := 191) (k := 1) (ok_aload_n dX5_unit_190 (.head _) rfl (.head _)) ci_5 (by decide) kf_X5_25 dX5_unit_191 (.head _) rfl rfl) ci_6 (by decide) kf_X5_185 dX5_unit_194 (.head _) rfl rfl) (okCons (p1 := 198) (ok_iconst dX5_unit_197 (.head _) (irn (by decide) (by decide))) (okCons (p1 := 202) (okE2 (p1 := 200) (p2 := 201) (τa := 0) (τb := 0) (ok_iload dX5_unit_198 (.head _) (.tail _ (.tail _ (.tail _ (.tail _ (.head _))))) t_0) (ok_iconst dX5_unit_200 (.head _) (irn (by decide) (by decide))) (s_isub dX5_unit_201 (.head _))) okNil))) MX1_put cf_X1_put ci_1 rfl kc_X1_put km_X5_223 ki_X1_put kv_X1_put kn_X1 (Nat.le_of_ble_eq_true rfl) (Nat.le_of_ble_eq_true rfl) dX5_unit_202 (.head _) rfl)))))))
 (okRet (p1 := 206) (τ := 3) (ok_zconst dX5_unit_205 (.head _) ⟨by decide, by decide⟩) rfl (by decide) dX5_unit_206))))))))))
def mX5_unit : QM := qM [2, 0] sX5_unit
theorem MX5_unit : MetY YX5_unit yX5_unit (some .boolean) [2, 0] mX5_unit := metY_of rfl (by decide +kernel) (.inr (.inl ⟨rfl, rfl⟩)) (by decide) oX5_unit

abbrev YX5_formula : YT := (RX5, cX5_formula, 5, 4, 90, 3)
theorem cf_X5_formula : CF yX5_formula 0 := ⟨by decide +kernel, by decide +kernel, by decide +kernel⟩
def cX5_formula_1 : QC :=
 (cB qle (eV 3) (eI 1000))
def bX5_formula_1 : QT :=
 (sSeq (sSet 4 (eCallV 5 mX5_kind [(eV 0)]))
 (sSeq (sIf (cE (eV 2)) (sSeq (sIf (cNot (cE (eCallV 5 mX5_unit [(eV 0), (eV 1)]))) (sRet (eI 0)) sSkip)
 (sSeq (sSet 2 (eB (cB qeq (eV 4) (eI 40))))
 (sSet 1 (e2 iA (eV 1) (eIf (cE (eV 2)) (eI 1) (eI 0)))))) (sIf (cB qgt (eCall mX5_rank [(eV 4)]) (eI 0)) (sSeq (sDo (eCallV 5 mX5_release [(eV 0), (eCall mX5_rank [(eV 4)])]))
 (sSeq (sDo (eCallV 5 mX5_await [(eV 0), (eV 4)]))
 (sSet 2 (eI 1)))) (sIf (cAnd (cB qeq (eV 4) (eI 41)) (cB qgt (eV 1) (eI 0))) (sSeq (sDo (eCallV 5 mX5_release [(eV 0), (eI 1)]))
 (sSeq (sPutC 5 9 (eV 0) iS (eI 1))
 (sInc 1 (-1)))) (sSeq (sDo (eCallV 5 mX5_release [(eV 0), (eI 1)]))
 (sRet (eIf (cB qeq (eV 1) (eI 0)) (eCallV 5 mX5_take [(eV 0), (eI 59)]) (eCallV 5 mX5_fail [(eV 0), (eI 1)])))))))
 (sPutC 5 2 (eV 0) iA (eI 1))))
def uX5_formula_1 : QT :=
 (sInc 3 1)
set_option maxRecDepth 100000 in
theorem obX5_formula_1 : OkS YX5_formula [(0, 2), (1, 0), (2, 3), (3, 0)] [(0, 2), (1, 0), (2, 3), (3, 0)] 18 [160] [(0, 2), (1, 0), (2, 3), (3, 0)] [166] [(0, 2), (1, 0), (2, 3), (3, 0)] [160] bX5_formula_1 := by
  unfold bX5_formula_1
  exact (okWeak (Γ1 := [(0, 2), (1, 0), (2, 3), (3, 0), (4, 0)]) (okSeq (p1 := 24) (Γ1 := [(0, 2), (1, 0), (2, 3), (3, 0), (4, 0)]) (ok_istore (Γ' := [(0, 2), (1, 0), (2, 3), (3, 0), (4, 0)]) (p1 := 22) (τ := 0) (okCallV (p1 := 19) (okCons (p1 := 19) (ok_aload_n dX5_formula_18 (.head _) rfl (.head _)) okNil) MX5_kind cf_X5_kind ci_5 rfl kc_X5_kind km_X5_47 ki_X5_kind kv_X5_kind kn_X5 (Nat.le_of_ble_eq_true rfl) (Nat.le_of_ble_eq_true rfl) dX5_formula_19 (.head _) (by decide) rfl (by decide)) t_0 dX5_formula_22 (by decide) (.head _) (by decide))
 (okSeq (p1 := 150) (Γ1 := [(0, 2), (1, 0), (2, 3), (3, 0), (4, 0)]) (okIf (Γ' := [(0, 2), (1, 0), (2, 3), (3, 0), (4, 0)]) (T := [28]) (F := [66]) (okCEf (p1 := 25) (okI (τ := 3) (ok_iload_n dX5_formula_24 (.head _) rfl (.tail _ (.tail _ (.head _))) t_3) t_3) (j_if_eq dX5_formula_25 rfl) (.head _) (.head _)) (one (okEnd (p1 := 63) (tg := 150) (okWeak (Γ1 := [(0, 2), (3, 0), (4, 0), (2, 3), (1, 0)]) (okSeq (p1 := 38) (Γ1 := [(0, 2), (1, 0), (2, 3), (3, 0), (4, 0)]) (okIf (Γ' := [(0, 2), (1, 0), (2, 3), (3, 0), (4, 0)]) (T := [36]) (F := [38]) (okNot (okCEt (p1 := 33) (okI (τ := 3) (okCallV (p1 := 30) (okCons (p1 := 29) (ok_aload_n dX5_formula_28 (.head _) rfl (.head _)) (okCons (p1 := 30) (ok_iload_n dX5_formula_29 (.head _) rfl (.tail _ (.head _)) t_0) okNil)) MX5_unit cf_X5_unit ci_5 rfl kc_X5_unit km_X5_207 ki_X5_unit kv_X5_unit kn_X5 (Nat.le_of_ble_eq_true rfl) (Nat.le_of_ble_eq_true rfl) dX5_formula_30 (.head _) (by decide) rfl (by decide)) t_3) (j_if_ne dX5_formula_33 rfl) (.head _) (.head _))) (one (okRet (p1 := 37) (τ := 3) (ok_zconst dX5_formula_36 (.head _) ⟨by decide, by decide⟩) rfl (by decide) dX5_formula_37)) (fun t ht => okSkip ht))
 (okSeq (p1 := 51) (Γ1 := [(0, 2), (1, 0), (3, 0), (4, 0), (2, 3)]) (ok_istore_n (Γ' := [(0, 2), (1, 0), (3, 0), (4, 0), (2, 3)]) (p1 := 50) (τ := 3) (okBv (pt := 45) (pf := 49) (pe := 50) (okCBf (p1 := 40) (p2 := 42) (τa := 0) (τb := 0) (ok_iload dX5_formula_38 (.head _) (.tail _ (.tail _ (.tail _ (.tail _ (.head _))))) t_0) (ok_bipush dX5_formula_40 (.head _) (irn4 (by decide) (by decide))) (j_icmp_ne dX5_formula_42 rfl) nq_eq (.head _) (.head _)) dX5_formula_45 dX5_formula_46 rfl dX5_formula_49 (.head _) (.head _)) t_3 dX5_formula_50 rfl (by decide) (.head _) (by decide))
 (ok_istore_n (Γ' := [(0, 2), (3, 0), (4, 0), (2, 3), (1, 0)]) (p1 := 62) (τ := 0) (okE2 (p1 := 52) (p2 := 61) (τa := 0) (τb := 0) (ok_iload_n dX5_formula_51 (.head _) rfl (.tail _ (.head _)) t_0) (okIfE (pt := 56) (pf := 60) (p1 := 57) (pe := 61) (okCEf (p1 := 53) (okI (τ := 3) (ok_iload_n dX5_formula_52 (.head _) rfl (.tail _ (.tail _ (.tail _ (.tail _ (.head _))))) t_3) t_3) (j_if_eq dX5_formula_53 rfl) (.head _) (.head _)) (ok_iconst dX5_formula_56 (.head _) (irn (by decide) (by decide))) dX5_formula_57 rfl (.head _) (ok_iconst dX5_formula_60 (.head _) (irn (by decide) (by decide)))) (s_iadd dX5_formula_61 (.head _))) t_0 dX5_formula_62 rfl (by decide) (.head _) (by decide)))) (by decide)) dX5_formula_63 rfl (.head _))) (one (okIf (Γ' := [(0, 2), (1, 0), (2, 3), (3, 0), (4, 0)]) (T := [74]) (F := [94]) (okCZf (p1 := 71) (τa := 0) (okCallS (p1 := 68) (okCons (p1 := 68) (ok_iload dX5_formula_66 (.head _) (.tail _ (.tail _ (.tail _ (.tail _ (.head _))))) t_0) okNil) MX5_rank cf_X5_rank rfl kc_X5_rank km_X5_210 ks_X5_rank kn_X5 (Nat.le_of_ble_eq_true rfl) (Nat.le_of_ble_eq_true rfl) dX5_formula_68 (.head _) (by decide) rfl (by decide)) (j_if_le dX5_formula_71 rfl) nq_gt (.head _) (.head _)) (one (okEnd (p1 := 91) (tg := 150) (okWeak (Γ1 := [(0, 2), (1, 0), (3, 0), (4, 0), (2, 3)]) (okSeq (p1 := 83) (Γ1 := [(0, 2), (1, 0), (2, 3), (3, 0), (4, 0)]) (okDoV (p1 := 80) (okCons (p1 := 75) (ok_aload_n dX5_formula_74 (.head _) rfl (.head _)) (okCons (p1 := 80) (okCallS (p1 := 77) (okCons (p1 := 77) (ok_iload dX5_formula_75 (.head _) (.tail _ (.tail _ (.tail _ (.tail _ (.head _))))) t_0) okNil) MX5_rank cf_X5_rank rfl kc_X5_rank km_X5_210 ks_X5_rank kn_X5 (Nat.le_of_ble_eq_true rfl) (Nat.le_of_ble_eq_true rfl) dX5_formula_77 (.head _) (by decide) rfl (by decide)) okNil)) MX5_release cf_X5_release ci_5 rfl kc_X5_release km_X5_213 ki_X5_release kv_X5_release kn_X5 (Nat.le_of_ble_eq_true rfl) (Nat.le_of_ble_eq_true rfl) dX5_formula_80 (.head _) rfl)
 (okSeq (p1 := 89) (Γ1 := [(0, 2), (1, 0), (2, 3), (3, 0), (4, 0)]) (okDoV (p1 := 86) (okCons (p1 := 84) (ok_aload_n dX5_formula_83 (.head _) rfl (.head _)) (okCons (p1 := 86) (ok_iload dX5_formula_84 (.head _) (.tail _ (.tail _ (.tail _ (.tail _ (.head _))))) t_0) okNil)) MX5_await cf_X5_await ci_5 rfl kc_X5_await km_X5_217 ki_X5_await kv_X5_await kn_X5 (Nat.le_of_ble_eq_true rfl) (Nat.le_of_ble_eq_true rfl) dX5_formula_86 (.head _) rfl)
 (ok_istore_n (Γ' := [(0, 2), (1, 0), (3, 0), (4, 0), (2, 3)]) (p1 := 90) (τ := 3) (ok_zconst dX5_formula_89 (.head _) ⟨by decide, by decide⟩) t_3 dX5_formula_90 rfl (by decide) (.head _) (by decide)))) (by decide)) dX5_formula_91 rfl (.head _))) (one (okIf (Γ' := [(0, 2), (1, 0), (2, 3), (3, 0), (4, 0)]) (T := [105]) (F := [126]) (okAnd (p1 := 101) (okCBf (p1 := 96) (p2 := 98) (τa := 0) (τb := 0) (ok_iload dX5_formula_94 (.head _) (.tail _ (.tail _ (.tail _ (.tail _ (.head _))))) t_0) (ok_bipush dX5_formula_96 (.head _) (irn4 (by decide) (by decide))) (j_icmp_ne dX5_formula_98 rfl) nq_eq (.head _) (.head _)) (okCZf (p1 := 102) (τa := 0) (ok_iload_n dX5_formula_101 (.head _) rfl (.tail _ (.head _)) t_0) (j_if_le dX5_formula_102 rfl) nq_gt (.head _) (.head _))) (one (okEnd (p1 := 123) (tg := 150) (okSeq (p1 := 110) (Γ1 := [(0, 2), (1, 0), (2, 3), (3, 0), (4, 0)]) (okDoV (p1 := 107) (okCons (p1 := 106) (ok_aload_n dX5_formula_105 (.head _) rfl (.head _)) (okCons (p1 := 107) (ok_iconst dX5_formula_106 (.head _) (irn (by decide) (by decide))) okNil)) MX5_release cf_X5_release ci_5 rfl kc_X5_release km_X5_213 ki_X5_release kv_X5_release kn_X5 (Nat.le_of_ble_eq_true rfl) (Nat.le_of_ble_eq_true rfl) dX5_formula_107 (.head _) rfl)
 (okSeq (p1 := 120) (Γ1 := [(0, 2), (1, 0), (2, 3), (3, 0), (4, 0)]) (okPutC (p1 := 111) (p2 := 116) (p3 := 117) (k := 9) (τ := 0) (τb := 0) (ok_aload_n dX5_formula_110 (.head _) rfl (.head _)) dX5_formula_111 dX5_formula_112 (ok_iconst dX5_formula_115 (.head _) (irn (by decide) (by decide))) (s_isub dX5_formula_116 (.head _)) rfl ci_5 (by decide) kf_X5_204 rfl (fun z _ => qfit_int z) dX5_formula_117 (.head _) rfl)
 (okInc (.tail _ (.head _)) dX5_formula_120 (by decide) (.head _) (by decide)))) dX5_formula_123 rfl (.head _))) (one (okSeq (p1 := 131) (Γ1 := [(0, 2), (1, 0), (2, 3), (3, 0), (4, 0)]) (okDoV (p1 := 128) (okCons (p1 := 127) (ok_aload_n dX5_formula_126 (.head _) rfl (.head _)) (okCons (p1 := 128) (ok_iconst dX5_formula_127 (.head _) (irn (by decide) (by decide))) okNil)) MX5_release cf_X5_release ci_5 rfl kc_X5_release km_X5_213 ki_X5_release kv_X5_release kn_X5 (Nat.le_of_ble_eq_true rfl) (Nat.le_of_ble_eq_true rfl) dX5_formula_128 (.head _) rfl)
 (okRet (p1 := 149) (τ := 3) (okIfE (pt := 135) (pf := 144) (p1 := 141) (pe := 149) (okCZf (p1 := 132) (τa := 0) (ok_iload_n dX5_formula_131 (.head _) rfl (.tail _ (.head _)) t_0) (j_if_ne dX5_formula_132 rfl) nq_eq (.head _) (.head _)) (okCallV (p1 := 138) (okCons (p1 := 136) (ok_aload_n dX5_formula_135 (.head _) rfl (.head _)) (okCons (p1 := 138) (ok_bipush dX5_formula_136 (.head _) (irn4 (by decide) (by decide))) okNil)) MX5_take cf_X5_take ci_5 rfl kc_X5_take km_X5_90 ki_X5_take kv_X5_take kn_X5 (Nat.le_of_ble_eq_true rfl) (Nat.le_of_ble_eq_true rfl) dX5_formula_138 (.head _) (by decide) rfl (by decide)) dX5_formula_141 rfl (.head _) (okCallV (p1 := 146) (okCons (p1 := 145) (ok_aload_n dX5_formula_144 (.head _) rfl (.head _)) (okCons (p1 := 146) (ok_iconst dX5_formula_145 (.head _) (irn (by decide) (by decide))) okNil)) MX5_fail cf_X5_fail ci_5 rfl kc_X5_fail km_X5_51 ki_X5_fail kv_X5_fail kn_X5 (Nat.le_of_ble_eq_true rfl) (Nat.le_of_ble_eq_true rfl) dX5_formula_146 (.head _) (by decide) rfl (by decide))) rfl (by decide) dX5_formula_149))))))))
 (okPutC (p1 := 151) (p2 := 156) (p3 := 157) (k := 2) (τ := 0) (τb := 0) (ok_aload_n dX5_formula_150 (.head _) rfl (.head _)) dX5_formula_151 dX5_formula_152 (ok_iconst dX5_formula_155 (.head _) (irn (by decide) (by decide))) (s_iadd dX5_formula_156 (.head _)) rfl ci_5 (by decide) kf_X5_34 rfl (fun z _ => qfit_int z) dX5_formula_157 (.head _) rfl))) (by decide))
set_option maxRecDepth 100000 in
theorem ocX5_formula_1 : OkC YX5_formula [(0, 2), (1, 0), (2, 3), (3, 0)] 0 11 [18] [166] cX5_formula_1 := by
  unfold cX5_formula_1
  exact (okCBf (p1 := 12) (p2 := 15) (τa := 0) (τb := 0) (ok_iload_n dX5_formula_11 (.head _) rfl (.tail _ (.tail _ (.tail _ (.head _)))) t_0) (ok_sipush dX5_formula_12 (.head _) ⟨by decide, by decide⟩) (j_icmp_gt dX5_formula_15 rfl) nq_le (.head _) (.head _))
set_option maxRecDepth 100000 in
theorem ouX5_formula_1 : ∀ t ∈ ([160] : List Nat), OkS YX5_formula [(0, 2), (1, 0), (2, 3), (3, 0)] [(0, 2), (1, 0), (2, 3), (3, 0)] t [11] [] [] [] [] uX5_formula_1 := by
  unfold uX5_formula_1
  exact (one (okEnd (p1 := 163) (tg := 11) (okInc (.tail _ (.tail _ (.tail _ (.head _)))) dX5_formula_160 (by decide) (.head _) (by decide)) dX5_formula_163 rfl (.head _)))
def sX5_formula : QT :=
 (sSeq (sPut 5 9 (eV 0) (eI 0))
 (sSeq (sSet 1 (eI 0))
 (sSeq (sSet 2 (eI 1))
 (sSeq (sSeq (sSet 3 (eI 0))
 (sWhile cX5_formula_1 bX5_formula_1 uX5_formula_1))
 (sRet (eCallV 5 mX5_fail [(eV 0), (eI 1)]))))))
set_option maxRecDepth 100000 in
theorem oX5_formula : OkS YX5_formula [(0, 2)] [(0, 2), (1, 0), (2, 3)] 0 [] [] [] [] [] sX5_formula := by
  unfold sX5_formula
  exact (okSeq (p1 := 5) (Γ1 := [(0, 2)]) (okPut (p1 := 1) (p2 := 2) (k := 9) (ok_aload_n dX5_formula_0 (.head _) rfl (.head _)) (ok_iconst dX5_formula_1 (.head _) (irn (by decide) (by decide))) rfl ci_5 (by decide) kf_X5_204 rfl (fun z _ => qfit_int z) dX5_formula_2 (.head _) rfl)
 (okSeq (p1 := 7) (Γ1 := [(0, 2), (1, 0)]) (ok_istore_n (Γ' := [(0, 2), (1, 0)]) (p1 := 6) (τ := 0) (ok_iconst dX5_formula_5 (.head _) (irn (by decide) (by decide))) t_0 dX5_formula_6 rfl (by decide) (.head _) (by decide))
 (okSeq (p1 := 9) (Γ1 := [(0, 2), (1, 0), (2, 3)]) (ok_istore_n (Γ' := [(0, 2), (1, 0), (2, 3)]) (p1 := 8) (τ := 3) (ok_zconst dX5_formula_7 (.head _) ⟨by decide, by decide⟩) t_3 dX5_formula_8 rfl (by decide) (.head _) (by decide))
 (okSeq (p1 := 166) (Γ1 := [(0, 2), (1, 0), (2, 3)]) (okWeak (Γ1 := [(0, 2), (1, 0), (2, 3), (3, 0)]) (okSeq (p1 := 11) (Γ1 := [(0, 2), (1, 0), (2, 3), (3, 0)]) (ok_istore_n (Γ' := [(0, 2), (1, 0), (2, 3), (3, 0)]) (p1 := 10) (τ := 0) (ok_iconst dX5_formula_9 (.head _) (irn (by decide) (by decide))) t_0 dX5_formula_10 rfl (by decide) (.head _) (by decide))
 (okWhile (T := [18]) (F := [166]) (Eb := [160]) ocX5_formula_1 (fun _ h => h) (one obX5_formula_1) ouX5_formula_1)) (by decide))
 (okRet (p1 := 171) (τ := 3) (okCallV (p1 := 168) (okCons (p1 := 167) (ok_aload_n dX5_formula_166 (.head _) rfl (.head _)) (okCons (p1 := 168) (ok_iconst dX5_formula_167 (.head _) (irn (by decide) (by decide))) okNil)) MX5_fail cf_X5_fail ci_5 rfl kc_X5_fail km_X5_51 ki_X5_fail kv_X5_fail kn_X5 (Nat.le_of_ble_eq_true rfl) (Nat.le_of_ble_eq_true rfl) dX5_formula_168 (.head _) (by decide) rfl (by decide)) rfl (by decide) dX5_formula_171)))))
def mX5_formula : QM := qM [2] sX5_formula
theorem MX5_formula : MetY YX5_formula yX5_formula (some .boolean) [2] mX5_formula := metY_of rfl (by decide +kernel) (.inr (.inl ⟨rfl, rfl⟩)) (by decide) oX5_formula

abbrev YX5_showLine : YT := (RX5, cX5_showLine, 2, 5, 114, 3)
theorem cf_X5_showLine : CF yX5_showLine 0 := ⟨by decide +kernel, by decide +kernel, by decide +kernel⟩
def sX5_showLine : QT :=
 (sSeq (sIf (cB qge (eF 1 0 (eF 6 5 (eF 5 1 (eV 0)))) (eI 4)) (sRet (eCallV 5 mX5_fail [(eV 0), (eI 4)])) sSkip)
 (sSeq (sPutC 5 2 (eV 0) iA (eI 1))
 (sSeq (sSet 1 (eF 5 2 (eV 0)))
 (sSeq (sIf (cOr (cOr (cNot (cE (eCallV 5 mX5_newName [(eV 0)]))) (cNot (cE (eCallV 5 mX5_take [(eV 0), (eI 61)])))) (cNot (cE (eCallV 5 mX5_formula [(eV 0)])))) (sRet (eI 0)) sSkip)
 (sSeq (sDo (eCallV 5 mX5_remember [(eV 0), (eV 1), (e2 iA (eI 4) (eF 1 0 (eF 6 5 (eF 5 1 (eV 0)))))]))
 (sSeq (sDo (eCallV 1 mX1_endShow [(eF 6 5 (eF 5 1 (eV 0)))]))
 (sRet (eI 1))))))))
set_option maxRecDepth 100000 in
theorem oX5_showLine : OkS YX5_showLine [(0, 2)] [(0, 2), (1, 0)] 0 [] [] [] [] [] sX5_showLine := by
  unfold sX5_showLine
  exact (okSeq (p1 := 20) (Γ1 := [(0, 2)]) (okIf (Γ' := [(0, 2)]) (T := [14]) (F := [20]) (okCBf (p1 := 10) (p2 := 11) (τa := 0) (τb := 0) (okF (p1 := 7) (k := 0) (okF (p1 := 4) (k := 5) (okF (p1 := 1) (k := 1) (ok_aload_n dX5_showLine_0 (.head _) rfl (.head _)) ci_5 (by decide) kf_X5_25 dX5_showLine_1 (.head _) rfl rfl) ci_6 (by decide) kf_X5_185 dX5_showLine_4 (.head _) rfl rfl) ci_1 (by decide) kf_X5_189 dX5_showLine_7 (.head _) rfl rfl) (ok_iconst dX5_showLine_10 (.head _) (irn (by decide) (by decide))) (j_icmp_lt dX5_showLine_11 rfl) nq_ge (.head _) (.head _)) (one (okRet (p1 := 19) (τ := 3) (okCallV (p1 := 16) (okCons (p1 := 15) (ok_aload_n dX5_showLine_14 (.head _) rfl (.head _)) (okCons (p1 := 16) (ok_iconst dX5_showLine_15 (.head _) (irn (by decide) (by decide))) okNil)) MX5_fail cf_X5_fail ci_5 rfl kc_X5_fail km_X5_51 ki_X5_fail kv_X5_fail kn_X5 (Nat.le_of_ble_eq_true rfl) (Nat.le_of_ble_eq_true rfl) dX5_showLine_16 (.head _) (by decide) rfl (by decide)) rfl (by decide) dX5_showLine_19)) (fun t ht => okSkip ht))
 (okSeq (p1 := 30) (Γ1 := [(0, 2)]) (okPutC (p1 := 21) (p2 := 26) (p3 := 27) (k := 2) (τ := 0) (τb := 0) (ok_aload_n dX5_showLine_20 (.head _) rfl (.head _)) dX5_showLine_21 dX5_showLine_22 (ok_iconst dX5_showLine_25 (.head _) (irn (by decide) (by decide))) (s_iadd dX5_showLine_26 (.head _)) rfl ci_5 (by decide) kf_X5_34 rfl (fun z _ => qfit_int z) dX5_showLine_27 (.head _) rfl)
 (okSeq (p1 := 35) (Γ1 := [(0, 2), (1, 0)]) (ok_istore_n (Γ' := [(0, 2), (1, 0)]) (p1 := 34) (τ := 0) (okF (p1 := 31) (k := 2) (ok_aload_n dX5_showLine_30 (.head _) rfl (.head _)) ci_5 (by decide) kf_X5_34 dX5_showLine_31 (.head _) rfl rfl) t_0 dX5_showLine_34 rfl (by decide) (.head _) (by decide))
 (okSeq (p1 := 60) (Γ1 := [(0, 2), (1, 0)]) (okIf (Γ' := [(0, 2), (1, 0)]) (T := [58]) (F := [60]) (okOr (p1 := 51) (okOr (p1 := 42) (okNot (okCEf (p1 := 39) (okI (τ := 3) (okCallV (p1 := 36) (okCons (p1 := 36) (ok_aload_n dX5_showLine_35 (.head _) rfl (.head _)) okNil) MX5_newName cf_X5_newName ci_5 rfl kc_X5_newName km_X5_103 ki_X5_newName kv_X5_newName kn_X5 (Nat.le_of_ble_eq_true rfl) (Nat.le_of_ble_eq_true rfl) dX5_showLine_36 (.head _) (by decide) rfl (by decide)) t_3) (j_if_eq dX5_showLine_39 rfl) (.head _) (.head _))) (okNot (okCEf (p1 := 48) (okI (τ := 3) (okCallV (p1 := 45) (okCons (p1 := 43) (ok_aload_n dX5_showLine_42 (.head _) rfl (.head _)) (okCons (p1 := 45) (ok_bipush dX5_showLine_43 (.head _) (irn4 (by decide) (by decide))) okNil)) MX5_take cf_X5_take ci_5 rfl kc_X5_take km_X5_90 ki_X5_take kv_X5_take kn_X5 (Nat.le_of_ble_eq_true rfl) (Nat.le_of_ble_eq_true rfl) dX5_showLine_45 (.head _) (by decide) rfl (by decide)) t_3) (j_if_eq dX5_showLine_48 rfl) (.head _) (.head _)))) (okNot (okCEt (p1 := 55) (okI (τ := 3) (okCallV (p1 := 52) (okCons (p1 := 52) (ok_aload_n dX5_showLine_51 (.head _) rfl (.head _)) okNil) MX5_formula cf_X5_formula ci_5 rfl kc_X5_formula km_X5_194 ki_X5_formula kv_X5_formula kn_X5 (Nat.le_of_ble_eq_true rfl) (Nat.le_of_ble_eq_true rfl) dX5_showLine_52 (.head _) (by decide) rfl (by decide)) t_3) (j_if_ne dX5_showLine_55 rfl) (.head _) (.head _)))) (one (okRet (p1 := 59) (τ := 3) (ok_zconst dX5_showLine_58 (.head _) ⟨by decide, by decide⟩) rfl (by decide) dX5_showLine_59)) (fun t ht => okSkip ht))
 (okSeq (p1 := 77) (Γ1 := [(0, 2), (1, 0)]) (okDoV (p1 := 74) (okCons (p1 := 61) (ok_aload_n dX5_showLine_60 (.head _) rfl (.head _)) (okCons (p1 := 62) (ok_iload_n dX5_showLine_61 (.head _) rfl (.tail _ (.head _)) t_0) (okCons (p1 := 74) (okE2 (p1 := 63) (p2 := 73) (τa := 0) (τb := 0) (ok_iconst dX5_showLine_62 (.head _) (irn (by decide) (by decide))) (okF (p1 := 70) (k := 0) (okF (p1 := 67) (k := 5) (okF (p1 := 64) (k := 1) (ok_aload_n dX5_showLine_63 (.head _) rfl (.head _)) ci_5 (by decide) kf_X5_25 dX5_showLine_64 (.head _) rfl rfl) ci_6 (by decide) kf_X5_185 dX5_showLine_67 (.head _) rfl rfl) ci_1 (by decide) kf_X5_189 dX5_showLine_70 (.head _) rfl rfl) (s_iadd dX5_showLine_73 (.head _))) okNil))) MX5_remember cf_X5_remember ci_5 rfl kc_X5_remember km_X5_119 ki_X5_remember kv_X5_remember kn_X5 (Nat.le_of_ble_eq_true rfl) (Nat.le_of_ble_eq_true rfl) dX5_showLine_74 (.head _) rfl)
 (okSeq (p1 := 87) (Γ1 := [(0, 2), (1, 0)]) (okDoV (p1 := 84) (okCons (p1 := 84) (okF (p1 := 81) (k := 5) (okF (p1 := 78) (k := 1) (ok_aload_n dX5_showLine_77 (.head _) rfl (.head _)) ci_5 (by decide) kf_X5_25 dX5_showLine_78 (.head _) rfl rfl) ci_6 (by decide) kf_X5_185 dX5_showLine_81 (.head _) rfl rfl) okNil) MX1_endShow cf_X1_endShow ci_1 rfl kc_X1_endShow km_X5_197 ki_X1_endShow kv_X1_endShow kn_X1 (Nat.le_of_ble_eq_true rfl) (Nat.le_of_ble_eq_true rfl) dX5_showLine_84 (.head _) rfl)
 (okRet (p1 := 88) (τ := 3) (ok_zconst dX5_showLine_87 (.head _) ⟨by decide, by decide⟩) rfl (by decide) dX5_showLine_88)))))))
def mX5_showLine : QM := qM [2] sX5_showLine
theorem MX5_showLine : MetY YX5_showLine yX5_showLine (some .boolean) [2] mX5_showLine := metY_of rfl (by decide +kernel) (.inr (.inl ⟨rfl, rfl⟩)) (by decide) oX5_showLine

abbrev YX5_stepLine : YT := (RX5, cX5_stepLine, 2, 4, 86, 3)
theorem cf_X5_stepLine : CF yX5_stepLine 0 := ⟨by decide +kernel, by decide +kernel, by decide +kernel⟩
def sX5_stepLine : QT :=
 (sSeq (sPutC 5 2 (eV 0) iA (eI 1))
 (sSeq (sSet 1 (eCallV 5 mX5_takeNumber [(eV 0), (eI 1), (eI 60)]))
 (sSeq (sIf (cB qeq (eV 1) (eI (-1))) (sRet (eI 0)) sSkip)
 (sSeq (sPut 6 0 (eF 5 1 (eV 0)) (eV 1))
 (sRet (eCallV 5 mX5_take [(eV 0), (eI 59)]))))))
set_option maxRecDepth 100000 in
theorem oX5_stepLine : OkS YX5_stepLine [(0, 2)] [(0, 2), (1, 0)] 0 [] [] [] [] [] sX5_stepLine := by
  unfold sX5_stepLine
  exact (okSeq (p1 := 10) (Γ1 := [(0, 2)]) (okPutC (p1 := 1) (p2 := 6) (p3 := 7) (k := 2) (τ := 0) (τb := 0) (ok_aload_n dX5_stepLine_0 (.head _) rfl (.head _)) dX5_stepLine_1 dX5_stepLine_2 (ok_iconst dX5_stepLine_5 (.head _) (irn (by decide) (by decide))) (s_iadd dX5_stepLine_6 (.head _)) rfl ci_5 (by decide) kf_X5_34 rfl (fun z _ => qfit_int z) dX5_stepLine_7 (.head _) rfl)
 (okSeq (p1 := 18) (Γ1 := [(0, 2), (1, 0)]) (ok_istore_n (Γ' := [(0, 2), (1, 0)]) (p1 := 17) (τ := 0) (okCallV (p1 := 14) (okCons (p1 := 11) (ok_aload_n dX5_stepLine_10 (.head _) rfl (.head _)) (okCons (p1 := 12) (ok_iconst dX5_stepLine_11 (.head _) (irn (by decide) (by decide))) (okCons (p1 := 14) (ok_bipush dX5_stepLine_12 (.head _) (irn4 (by decide) (by decide))) okNil))) MX5_takeNumber cf_X5_takeNumber ci_5 rfl kc_X5_takeNumber km_X5_83 ki_X5_takeNumber kv_X5_takeNumber kn_X5 (Nat.le_of_ble_eq_true rfl) (Nat.le_of_ble_eq_true rfl) dX5_stepLine_14 (.head _) (by decide) rfl (by decide)) t_0 dX5_stepLine_17 rfl (by decide) (.head _) (by decide))
 (okSeq (p1 := 25) (Γ1 := [(0, 2), (1, 0)]) (okIf (Γ' := [(0, 2), (1, 0)]) (T := [23]) (F := [25]) (okCBf (p1 := 19) (p2 := 20) (τa := 0) (τb := 0) (ok_iload_n dX5_stepLine_18 (.head _) rfl (.tail _ (.head _)) t_0) (ok_iconst dX5_stepLine_19 (.head _) (irn (by decide) (by decide))) (j_icmp_ne dX5_stepLine_20 rfl) nq_eq (.head _) (.head _)) (one (okRet (p1 := 24) (τ := 3) (ok_zconst dX5_stepLine_23 (.head _) ⟨by decide, by decide⟩) rfl (by decide) dX5_stepLine_24)) (fun t ht => okSkip ht))
 (okSeq (p1 := 33) (Γ1 := [(0, 2), (1, 0)]) (okPut (p1 := 29) (p2 := 30) (k := 0) (okF (p1 := 26) (k := 1) (ok_aload_n dX5_stepLine_25 (.head _) rfl (.head _)) ci_5 (by decide) kf_X5_25 dX5_stepLine_26 (.head _) rfl rfl) (ok_iload_n dX5_stepLine_29 (.head _) rfl (.tail _ (.head _)) t_0) rfl ci_6 (by decide) kf_X5_87 rfl (fun z _ => qfit_int z) dX5_stepLine_30 (.head _) rfl)
 (okRet (p1 := 39) (τ := 3) (okCallV (p1 := 36) (okCons (p1 := 34) (ok_aload_n dX5_stepLine_33 (.head _) rfl (.head _)) (okCons (p1 := 36) (ok_bipush dX5_stepLine_34 (.head _) (irn4 (by decide) (by decide))) okNil)) MX5_take cf_X5_take ci_5 rfl kc_X5_take km_X5_90 ki_X5_take kv_X5_take kn_X5 (Nat.le_of_ble_eq_true rfl) (Nat.le_of_ble_eq_true rfl) dX5_stepLine_36 (.head _) (by decide) rfl (by decide)) rfl (by decide) dX5_stepLine_39)))))
def mX5_stepLine : QM := qM [2] sX5_stepLine
theorem MX5_stepLine : MetY YX5_stepLine yX5_stepLine (some .boolean) [2] mX5_stepLine := metY_of rfl (by decide +kernel) (.inr (.inl ⟨rfl, rfl⟩)) (by decide) oX5_stepLine

abbrev YX1_clear : YT := (RX1, cX1_clear, 1, 0, 0, 9)
theorem cf_X1_clear : CF yX1_clear 0 := ⟨by decide +kernel, by decide +kernel, by decide +kernel⟩
def sX1_clear : QT :=
 (sSeq (sPut 1 0 (eV 0) (eI 0))
 (sSeq (sPut 1 1 (eV 0) (eI 0))
 (sSeq (sPut 1 2 (eV 0) (eI 0))
 sRetV)))
set_option maxRecDepth 100000 in
theorem oX1_clear : OkS YX1_clear [(0, 2)] [(0, 2)] 0 [] [] [] [] [] sX1_clear := by
  unfold sX1_clear
  exact (okSeq (p1 := 5) (Γ1 := [(0, 2)]) (okPut (p1 := 1) (p2 := 2) (k := 0) (ok_aload_n dX1_clear_0 (.head _) rfl (.head _)) (ok_iconst dX1_clear_1 (.head _) (irn (by decide) (by decide))) rfl ci_1 (by decide) kf_X1_27 rfl (fun z _ => qfit_int z) dX1_clear_2 (.head _) rfl)
 (okSeq (p1 := 10) (Γ1 := [(0, 2)]) (okPut (p1 := 6) (p2 := 7) (k := 1) (ok_aload_n dX1_clear_5 (.head _) rfl (.head _)) (ok_iconst dX1_clear_6 (.head _) (irn (by decide) (by decide))) rfl ci_1 (by decide) kf_X1_31 rfl (fun z _ => qfit_int z) dX1_clear_7 (.head _) rfl)
 (okSeq (p1 := 15) (Γ1 := [(0, 2)]) (okPut (p1 := 11) (p2 := 12) (k := 2) (ok_aload_n dX1_clear_10 (.head _) rfl (.head _)) (ok_iconst dX1_clear_11 (.head _) (irn (by decide) (by decide))) rfl ci_1 (by decide) kf_X1_34 rfl (fun z _ => qfit_int z) dX1_clear_12 (.head _) rfl)
 (okRetV rfl dX1_clear_15))))
def mX1_clear : QM := qM [2] sX1_clear
theorem MX1_clear : MetY YX1_clear yX1_clear none [2] mX1_clear := metY_of rfl (by decide +kernel) (.inr (.inr (.inr (.inl ⟨rfl, rfl⟩)))) (by decide) oX1_clear

abbrev YX6_clear : YT := (RX6, cX6_clear, 1, 1, 20, 9)
theorem cf_X6_clear : CF yX6_clear 0 := ⟨by decide +kernel, by decide +kernel, by decide +kernel⟩
def sX6_clear : QT :=
 (sSeq (sPut 6 0 (eV 0) (eI 1))
 (sSeq (sPut 6 1 (eV 0) (eI 0))
 (sSeq (sPut 6 2 (eV 0) (eI 0))
 (sSeq (sDo (eCallV 1 mX1_clear [(eF 6 5 (eV 0))]))
 sRetV))))
set_option maxRecDepth 100000 in
theorem oX6_clear : OkS YX6_clear [(0, 2)] [(0, 2)] 0 [] [] [] [] [] sX6_clear := by
  unfold sX6_clear
  exact (okSeq (p1 := 5) (Γ1 := [(0, 2)]) (okPut (p1 := 1) (p2 := 2) (k := 0) (ok_aload_n dX6_clear_0 (.head _) rfl (.head _)) (ok_iconst dX6_clear_1 (.head _) (irn (by decide) (by decide))) rfl ci_6 (by decide) kf_X6_9 rfl (fun z _ => qfit_int z) dX6_clear_2 (.head _) rfl)
 (okSeq (p1 := 10) (Γ1 := [(0, 2)]) (okPut (p1 := 6) (p2 := 7) (k := 1) (ok_aload_n dX6_clear_5 (.head _) rfl (.head _)) (ok_iconst dX6_clear_6 (.head _) (irn (by decide) (by decide))) rfl ci_6 (by decide) kf_X6_36 rfl (fun z _ => qfit_int z) dX6_clear_7 (.head _) rfl)
 (okSeq (p1 := 15) (Γ1 := [(0, 2)]) (okPut (p1 := 11) (p2 := 12) (k := 2) (ok_aload_n dX6_clear_10 (.head _) rfl (.head _)) (ok_iconst dX6_clear_11 (.head _) (irn (by decide) (by decide))) rfl ci_6 (by decide) kf_X6_39 rfl (fun z _ => qfit_int z) dX6_clear_12 (.head _) rfl)
 (okSeq (p1 := 22) (Γ1 := [(0, 2)]) (okDoV (p1 := 19) (okCons (p1 := 19) (okF (p1 := 16) (k := 5) (ok_aload_n dX6_clear_15 (.head _) rfl (.head _)) ci_6 (by decide) kf_X6_30 dX6_clear_16 (.head _) rfl rfl) okNil) MX1_clear cf_X1_clear ci_1 rfl kc_X1_clear km_X6_42 ki_X1_clear kv_X1_clear kn_X1 (Nat.le_of_ble_eq_true rfl) (Nat.le_of_ble_eq_true rfl) dX6_clear_19 (.head _) rfl)
 (okRetV rfl dX6_clear_22)))))
def mX6_clear : QM := qM [2] sX6_clear
theorem MX6_clear : MetY YX6_clear yX6_clear none [2] mX6_clear := metY_of rfl (by decide +kernel) (.inr (.inr (.inr (.inl ⟨rfl, rfl⟩)))) (by decide) oX6_clear

abbrev YX5_parse : YT := (RX5, cX5_parse, 5, 6, 135, 3)
theorem cf_X5_parse : CF yX5_parse 2 := ⟨by decide +kernel, by decide +kernel, by decide +kernel⟩
def cX5_parse_1 : QC :=
 (cAnd (cAnd (cB qlt (eV 4) (eI 1000)) (cE (eV 3))) (cB qne (eCallV 5 mX5_kind [(eV 0)]) (eI 1)))
def bX5_parse_1 : QT :=
 (sSw (eCallV 5 mX5_kind [(eV 0)]) [([257], (sSeq (sSet 3 (eCallV 5 mX5_measureLine [(eV 0)])) sBrk)), ([264], (sSeq (sSet 3 (eCallV 5 mX5_archiveLine [(eV 0)])) sBrk)), ([269], (sSeq (sSet 3 (eCallV 5 mX5_forecastLine [(eV 0)])) sBrk)), ([272], (sSeq (sSet 3 (eCallV 5 mX5_showLine [(eV 0)])) sBrk))] (sSeq (sSet 3 (eCallV 5 mX5_fail [(eV 0), (eI 1)])) sBrk))
def uX5_parse_1 : QT :=
 (sInc 4 1)
set_option maxRecDepth 100000 in
theorem obX5_parse_1 : OkS YX5_parse [(0, 2), (1, 2), (2, 2), (3, 3), (4, 0)] [(0, 2), (1, 2), (2, 2), (3, 3), (4, 0)] 91 [174] [(0, 2), (1, 2), (2, 2), (3, 3), (4, 0)] [180] [(0, 2), (1, 2), (2, 2), (3, 3), (4, 0)] [174] bX5_parse_1 := by
  unfold bX5_parse_1
  exact (okSw (Γ' := [(0, 2), (1, 2), (2, 2), (3, 3), (4, 0)]) (p1 := 95) (df := 168) (tb := [(257, 136), (264, 144), (269, 152), (272, 160)]) [([257], 136, (sSeq (sSet 3 (eCallV 5 mX5_measureLine [(eV 0)])) sBrk)), ([264], 144, (sSeq (sSet 3 (eCallV 5 mX5_archiveLine [(eV 0)])) sBrk)), ([269], 152, (sSeq (sSet 3 (eCallV 5 mX5_forecastLine [(eV 0)])) sBrk)), ([272], 160, (sSeq (sSet 3 (eCallV 5 mX5_showLine [(eV 0)])) sBrk))] rfl (okCallV (p1 := 92) (okCons (p1 := 92) (ok_aload_n dX5_parse_91 (.head _) rfl (.head _)) okNil) MX5_kind cf_X5_kind ci_5 rfl kc_X5_kind km_X5_47 ki_X5_kind kv_X5_kind kn_X5 (Nat.le_of_ble_eq_true rfl) (Nat.le_of_ble_eq_true rfl) dX5_parse_92 (.head _) (by decide) rfl (by decide)) (sw_look (tb := [(257, 136), (264, 144), (269, 152), (272, 160)]) (df := 168) dX5_parse_95 (by decide +kernel) rfl (by decide +kernel))
 (okCsCons (okSeqL (E1 := [141, 174]) (Γ1 := [(0, 2), (1, 2), (2, 2), (4, 0), (3, 3)]) (ok_istore_n (Γ' := [(0, 2), (1, 2), (2, 2), (4, 0), (3, 3)]) (p1 := 140) (τ := 3) (okCallV (p1 := 137) (okCons (p1 := 137) (ok_aload_n dX5_parse_136 (.head _) rfl (.head _)) okNil) MX5_measureLine cf_X5_measureLine ci_5 rfl kc_X5_measureLine km_X5_59 ki_X5_measureLine kv_X5_measureLine kn_X5 (Nat.le_of_ble_eq_true rfl) (Nat.le_of_ble_eq_true rfl) dX5_parse_137 (.head _) (by decide) rfl (by decide)) t_3 dX5_parse_140 rfl (by decide) (.head _) (by decide)) (List.forall_mem_cons.mpr ⟨(okPre (Γ1 := [(0, 2), (1, 2), (2, 2), (3, 3), (4, 0)]) (okGo dX5_parse_141 (tg := 174) rfl (okBrk0 (.head _))) (by decide)), (List.forall_mem_cons.mpr ⟨(okPre (Γ1 := [(0, 2), (1, 2), (2, 2), (3, 3), (4, 0)]) (okBrk0 (.head _)) (by decide)), (List.forall_mem_nil _)⟩)⟩))
 (okCsCons (okSeqL (E1 := [149, 174]) (Γ1 := [(0, 2), (1, 2), (2, 2), (4, 0), (3, 3)]) (ok_istore_n (Γ' := [(0, 2), (1, 2), (2, 2), (4, 0), (3, 3)]) (p1 := 148) (τ := 3) (okCallV (p1 := 145) (okCons (p1 := 145) (ok_aload_n dX5_parse_144 (.head _) rfl (.head _)) okNil) MX5_archiveLine cf_X5_archiveLine ci_5 rfl kc_X5_archiveLine km_X5_62 ki_X5_archiveLine kv_X5_archiveLine kn_X5 (Nat.le_of_ble_eq_true rfl) (Nat.le_of_ble_eq_true rfl) dX5_parse_145 (.head _) (by decide) rfl (by decide)) t_3 dX5_parse_148 rfl (by decide) (.head _) (by decide)) (List.forall_mem_cons.mpr ⟨(okPre (Γ1 := [(0, 2), (1, 2), (2, 2), (3, 3), (4, 0)]) (okGo dX5_parse_149 (tg := 174) rfl (okBrk0 (.head _))) (by decide)), (List.forall_mem_cons.mpr ⟨(okPre (Γ1 := [(0, 2), (1, 2), (2, 2), (3, 3), (4, 0)]) (okBrk0 (.head _)) (by decide)), (List.forall_mem_nil _)⟩)⟩))
 (okCsCons (okSeqL (E1 := [157, 174]) (Γ1 := [(0, 2), (1, 2), (2, 2), (4, 0), (3, 3)]) (ok_istore_n (Γ' := [(0, 2), (1, 2), (2, 2), (4, 0), (3, 3)]) (p1 := 156) (τ := 3) (okCallV (p1 := 153) (okCons (p1 := 153) (ok_aload_n dX5_parse_152 (.head _) rfl (.head _)) okNil) MX5_forecastLine cf_X5_forecastLine ci_5 rfl kc_X5_forecastLine km_X5_65 ki_X5_forecastLine kv_X5_forecastLine kn_X5 (Nat.le_of_ble_eq_true rfl) (Nat.le_of_ble_eq_true rfl) dX5_parse_153 (.head _) (by decide) rfl (by decide)) t_3 dX5_parse_156 rfl (by decide) (.head _) (by decide)) (List.forall_mem_cons.mpr ⟨(okPre (Γ1 := [(0, 2), (1, 2), (2, 2), (3, 3), (4, 0)]) (okGo dX5_parse_157 (tg := 174) rfl (okBrk0 (.head _))) (by decide)), (List.forall_mem_cons.mpr ⟨(okPre (Γ1 := [(0, 2), (1, 2), (2, 2), (3, 3), (4, 0)]) (okBrk0 (.head _)) (by decide)), (List.forall_mem_nil _)⟩)⟩))
 (okCsCons (okSeqL (E1 := [165, 174]) (Γ1 := [(0, 2), (1, 2), (2, 2), (4, 0), (3, 3)]) (ok_istore_n (Γ' := [(0, 2), (1, 2), (2, 2), (4, 0), (3, 3)]) (p1 := 164) (τ := 3) (okCallV (p1 := 161) (okCons (p1 := 161) (ok_aload_n dX5_parse_160 (.head _) rfl (.head _)) okNil) MX5_showLine cf_X5_showLine ci_5 rfl kc_X5_showLine km_X5_68 ki_X5_showLine kv_X5_showLine kn_X5 (Nat.le_of_ble_eq_true rfl) (Nat.le_of_ble_eq_true rfl) dX5_parse_161 (.head _) (by decide) rfl (by decide)) t_3 dX5_parse_164 rfl (by decide) (.head _) (by decide)) (List.forall_mem_cons.mpr ⟨(okPre (Γ1 := [(0, 2), (1, 2), (2, 2), (3, 3), (4, 0)]) (okGo dX5_parse_165 (tg := 174) rfl (okBrk0 (.head _))) (by decide)), (List.forall_mem_cons.mpr ⟨(okPre (Γ1 := [(0, 2), (1, 2), (2, 2), (3, 3), (4, 0)]) (okBrk0 (.head _)) (by decide)), (List.forall_mem_nil _)⟩)⟩))
 okCsNil)))) (okSeqL (E1 := [174]) (Γ1 := [(0, 2), (1, 2), (2, 2), (4, 0), (3, 3)]) (ok_istore_n (Γ' := [(0, 2), (1, 2), (2, 2), (4, 0), (3, 3)]) (p1 := 173) (τ := 3) (okCallV (p1 := 170) (okCons (p1 := 169) (ok_aload_n dX5_parse_168 (.head _) rfl (.head _)) (okCons (p1 := 170) (ok_iconst dX5_parse_169 (.head _) (irn (by decide) (by decide))) okNil)) MX5_fail cf_X5_fail ci_5 rfl kc_X5_fail km_X5_51 ki_X5_fail kv_X5_fail kn_X5 (Nat.le_of_ble_eq_true rfl) (Nat.le_of_ble_eq_true rfl) dX5_parse_170 (.head _) (by decide) rfl (by decide)) t_3 dX5_parse_173 rfl (by decide) (.head _) (by decide)) (List.forall_mem_cons.mpr ⟨(okPre (Γ1 := [(0, 2), (1, 2), (2, 2), (3, 3), (4, 0)]) (okBrk0 (.head _)) (by decide)), (List.forall_mem_nil _)⟩)) (by decide +kernel) (by decide +kernel))
set_option maxRecDepth 100000 in
theorem ocX5_parse_1 : OkC YX5_parse [(0, 2), (1, 2), (2, 2), (3, 3), (4, 0)] 0 71 [91] [180] cX5_parse_1 := by
  unfold cX5_parse_1
  exact (okAnd (p1 := 83) (okAnd (p1 := 79) (okCBf (p1 := 73) (p2 := 76) (τa := 0) (τb := 0) (ok_iload dX5_parse_71 (.head _) (.tail _ (.tail _ (.tail _ (.tail _ (.head _))))) t_0) (ok_sipush dX5_parse_73 (.head _) ⟨by decide, by decide⟩) (j_icmp_ge dX5_parse_76 rfl) nq_lt (.head _) (.head _)) (okCEf (p1 := 80) (okI (τ := 3) (ok_iload_n dX5_parse_79 (.head _) rfl (.tail _ (.tail _ (.tail _ (.head _)))) t_3) t_3) (j_if_eq dX5_parse_80 rfl) (.head _) (.head _))) (okCBf (p1 := 87) (p2 := 88) (τa := 0) (τb := 0) (okCallV (p1 := 84) (okCons (p1 := 84) (ok_aload_n dX5_parse_83 (.head _) rfl (.head _)) okNil) MX5_kind cf_X5_kind ci_5 rfl kc_X5_kind km_X5_47 ki_X5_kind kv_X5_kind kn_X5 (Nat.le_of_ble_eq_true rfl) (Nat.le_of_ble_eq_true rfl) dX5_parse_84 (.head _) (by decide) rfl (by decide)) (ok_iconst dX5_parse_87 (.head _) (irn (by decide) (by decide))) (j_icmp_eq dX5_parse_88 rfl) nq_ne (.head _) (.head _)))
set_option maxRecDepth 100000 in
theorem ouX5_parse_1 : ∀ t ∈ ([174] : List Nat), OkS YX5_parse [(0, 2), (1, 2), (2, 2), (3, 3), (4, 0)] [(0, 2), (1, 2), (2, 2), (3, 3), (4, 0)] t [71] [] [] [] [] uX5_parse_1 := by
  unfold uX5_parse_1
  exact (one (okEnd (p1 := 177) (tg := 71) (okInc (.tail _ (.tail _ (.tail _ (.tail _ (.head _))))) dX5_parse_174 (by decide) (.head _) (by decide)) dX5_parse_177 rfl (.head _)))
def sX5_parse : QT :=
 (sSeq (sPut 5 0 (eV 0) (eV 1))
 (sSeq (sPut 5 1 (eV 0) (eV 2))
 (sSeq (sDo (eCallV 6 mX6_clear [(eF 5 1 (eV 0))]))
 (sSeq (sPut 5 2 (eV 0) (eI 0))
 (sSeq (sPut 5 7 (eV 0) (eI 0))
 (sSeq (sPut 5 3 (eV 0) (eI 0))
 (sSeq (sPut 5 4 (eV 0) (eI (-1)))
 (sSeq (sIf (cB qeq (eCallV 5 mX5_kind [(eV 0)]) (eI 1)) (sRet (eI 1)) sSkip)
 (sSeq (sIf (cB qne (eCallV 5 mX5_kind [(eV 0)]) (eI 256)) (sRet (eCallV 5 mX5_fail [(eV 0), (eI 1)])) sSkip)
 (sSeq (sSet 3 (eCallV 5 mX5_stepLine [(eV 0)]))
 (sSeq (sSeq (sSet 4 (eI 0))
 (sWhile cX5_parse_1 bX5_parse_1 uX5_parse_1))
 (sRet (eV 3)))))))))))))
set_option maxRecDepth 100000 in
theorem oX5_parse : OkS YX5_parse [(0, 2), (1, 2), (2, 2)] [(0, 2), (1, 2), (2, 2), (3, 3)] 0 [] [] [] [] [] sX5_parse := by
  unfold sX5_parse
  exact (okSeq (p1 := 5) (Γ1 := [(0, 2), (1, 2), (2, 2)]) (okPut (p1 := 1) (p2 := 2) (k := 0) (ok_aload_n dX5_parse_0 (.head _) rfl (.head _)) (ok_aload_n dX5_parse_1 (.head _) rfl (.tail _ (.head _))) rfl ci_5 (by decide) kf_X5_21 rfl (fun z _ => qfit_obj _ z) dX5_parse_2 (.head _) rfl)
 (okSeq (p1 := 10) (Γ1 := [(0, 2), (1, 2), (2, 2)]) (okPut (p1 := 6) (p2 := 7) (k := 1) (ok_aload_n dX5_parse_5 (.head _) rfl (.head _)) (ok_aload_n dX5_parse_6 (.head _) rfl (.tail _ (.tail _ (.head _)))) rfl ci_5 (by decide) kf_X5_25 rfl (fun z _ => qfit_obj _ z) dX5_parse_7 (.head _) rfl)
 (okSeq (p1 := 17) (Γ1 := [(0, 2), (1, 2), (2, 2)]) (okDoV (p1 := 14) (okCons (p1 := 14) (okF (p1 := 11) (k := 1) (ok_aload_n dX5_parse_10 (.head _) rfl (.head _)) ci_5 (by decide) kf_X5_25 dX5_parse_11 (.head _) rfl rfl) okNil) MX6_clear cf_X6_clear ci_6 rfl kc_X6_clear km_X5_29 ki_X6_clear kv_X6_clear kn_X6 (Nat.le_of_ble_eq_true rfl) (Nat.le_of_ble_eq_true rfl) dX5_parse_14 (.head _) rfl)
 (okSeq (p1 := 22) (Γ1 := [(0, 2), (1, 2), (2, 2)]) (okPut (p1 := 18) (p2 := 19) (k := 2) (ok_aload_n dX5_parse_17 (.head _) rfl (.head _)) (ok_iconst dX5_parse_18 (.head _) (irn (by decide) (by decide))) rfl ci_5 (by decide) kf_X5_34 rfl (fun z _ => qfit_int z) dX5_parse_19 (.head _) rfl)
 (okSeq (p1 := 27) (Γ1 := [(0, 2), (1, 2), (2, 2)]) (okPut (p1 := 23) (p2 := 24) (k := 7) (ok_aload_n dX5_parse_22 (.head _) rfl (.head _)) (ok_iconst dX5_parse_23 (.head _) (irn (by decide) (by decide))) rfl ci_5 (by decide) kf_X5_38 rfl (fun z _ => qfit_int z) dX5_parse_24 (.head _) rfl)
 (okSeq (p1 := 32) (Γ1 := [(0, 2), (1, 2), (2, 2)]) (okPut (p1 := 28) (p2 := 29) (k := 3) (ok_aload_n dX5_parse_27 (.head _) rfl (.head _)) (ok_iconst dX5_parse_28 (.head _) (irn (by decide) (by decide))) rfl ci_5 (by decide) kf_X5_41 rfl (fun z _ => qfit_int z) dX5_parse_29 (.head _) rfl)
 (okSeq (p1 := 37) (Γ1 := [(0, 2), (1, 2), (2, 2)]) (okPut (p1 := 33) (p2 := 34) (k := 4) (ok_aload_n dX5_parse_32 (.head _) rfl (.head _)) (ok_iconst dX5_parse_33 (.head _) (irn (by decide) (by decide))) rfl ci_5 (by decide) kf_X5_44 rfl (fun z _ => qfit_int z) dX5_parse_34 (.head _) rfl)
 (okSeq (p1 := 47) (Γ1 := [(0, 2), (1, 2), (2, 2)]) (okIf (Γ' := [(0, 2), (1, 2), (2, 2)]) (T := [45]) (F := [47]) (okCBf (p1 := 41) (p2 := 42) (τa := 0) (τb := 0) (okCallV (p1 := 38) (okCons (p1 := 38) (ok_aload_n dX5_parse_37 (.head _) rfl (.head _)) okNil) MX5_kind cf_X5_kind ci_5 rfl kc_X5_kind km_X5_47 ki_X5_kind kv_X5_kind kn_X5 (Nat.le_of_ble_eq_true rfl) (Nat.le_of_ble_eq_true rfl) dX5_parse_38 (.head _) (by decide) rfl (by decide)) (ok_iconst dX5_parse_41 (.head _) (irn (by decide) (by decide))) (j_icmp_ne dX5_parse_42 rfl) nq_eq (.head _) (.head _)) (one (okRet (p1 := 46) (τ := 3) (ok_zconst dX5_parse_45 (.head _) ⟨by decide, by decide⟩) rfl (by decide) dX5_parse_46)) (fun t ht => okSkip ht))
 (okSeq (p1 := 63) (Γ1 := [(0, 2), (1, 2), (2, 2)]) (okIf (Γ' := [(0, 2), (1, 2), (2, 2)]) (T := [57]) (F := [63]) (okCBf (p1 := 51) (p2 := 54) (τa := 0) (τb := 0) (okCallV (p1 := 48) (okCons (p1 := 48) (ok_aload_n dX5_parse_47 (.head _) rfl (.head _)) okNil) MX5_kind cf_X5_kind ci_5 rfl kc_X5_kind km_X5_47 ki_X5_kind kv_X5_kind kn_X5 (Nat.le_of_ble_eq_true rfl) (Nat.le_of_ble_eq_true rfl) dX5_parse_48 (.head _) (by decide) rfl (by decide)) (ok_sipush dX5_parse_51 (.head _) ⟨by decide, by decide⟩) (j_icmp_eq dX5_parse_54 rfl) nq_ne (.head _) (.head _)) (one (okRet (p1 := 62) (τ := 3) (okCallV (p1 := 59) (okCons (p1 := 58) (ok_aload_n dX5_parse_57 (.head _) rfl (.head _)) (okCons (p1 := 59) (ok_iconst dX5_parse_58 (.head _) (irn (by decide) (by decide))) okNil)) MX5_fail cf_X5_fail ci_5 rfl kc_X5_fail km_X5_51 ki_X5_fail kv_X5_fail kn_X5 (Nat.le_of_ble_eq_true rfl) (Nat.le_of_ble_eq_true rfl) dX5_parse_59 (.head _) (by decide) rfl (by decide)) rfl (by decide) dX5_parse_62)) (fun t ht => okSkip ht))
 (okSeq (p1 := 68) (Γ1 := [(0, 2), (1, 2), (2, 2), (3, 3)]) (ok_istore_n (Γ' := [(0, 2), (1, 2), (2, 2), (3, 3)]) (p1 := 67) (τ := 3) (okCallV (p1 := 64) (okCons (p1 := 64) (ok_aload_n dX5_parse_63 (.head _) rfl (.head _)) okNil) MX5_stepLine cf_X5_stepLine ci_5 rfl kc_X5_stepLine km_X5_55 ki_X5_stepLine kv_X5_stepLine kn_X5 (Nat.le_of_ble_eq_true rfl) (Nat.le_of_ble_eq_true rfl) dX5_parse_64 (.head _) (by decide) rfl (by decide)) t_3 dX5_parse_67 rfl (by decide) (.head _) (by decide))
 (okSeq (p1 := 180) (Γ1 := [(0, 2), (1, 2), (2, 2), (3, 3)]) (okWeak (Γ1 := [(0, 2), (1, 2), (2, 2), (3, 3), (4, 0)]) (okSeq (p1 := 71) (Γ1 := [(0, 2), (1, 2), (2, 2), (3, 3), (4, 0)]) (ok_istore (Γ' := [(0, 2), (1, 2), (2, 2), (3, 3), (4, 0)]) (p1 := 69) (τ := 0) (ok_iconst dX5_parse_68 (.head _) (irn (by decide) (by decide))) t_0 dX5_parse_69 (by decide) (.head _) (by decide))
 (okWhile (T := [91]) (F := [180]) (Eb := [174]) ocX5_parse_1 (fun _ h => h) (one obX5_parse_1) ouX5_parse_1)) (by decide))
 (okRet (p1 := 181) (τ := 3) (ok_iload_n dX5_parse_180 (.head _) rfl (.tail _ (.tail _ (.tail _ (.head _)))) t_3) rfl (by decide) dX5_parse_181))))))))))))
def mX5_parse : QM := qM [2, 2, 2] sX5_parse
theorem MX5_parse : MetY YX5_parse yX5_parse (some .boolean) [2, 2, 2] mX5_parse := metY_of rfl (by decide +kernel) (.inr (.inl ⟨rfl, rfl⟩)) (by decide) oX5_parse

abbrev YX3_begin : YT := (RX3, cX3_begin, 2, 0, 0, 9)
theorem cf_X3_begin : CF yX3_begin 1 := ⟨by decide +kernel, by decide +kernel, by decide +kernel⟩
def sX3_begin : QT :=
 (sSeq (sPut 3 0 (eV 0) (eF 2 3 (eV 1)))
 (sSeq (sPut 3 1 (eV 0) (eF 2 4 (eV 1)))
 (sSeq (sPut 3 2 (eV 0) (eF 2 5 (eV 1)))
 (sSeq (sPut 3 3 (eV 0) (eI (-1)))
 (sSeq (sPut 3 4 (eV 0) (eI (-2147483648)))
 (sSeq (sPut 3 5 (eV 0) (eI (-2147483648)))
 (sSeq (sPut 3 6 (eV 0) (eI 0))
 (sSeq (sPut 3 7 (eV 0) (eI 0))
 (sSeq (sPut 3 8 (eV 0) (eI (-2000000000)))
 (sSeq (sPut 3 9 (eV 0) (eI 2000000000))
 sRetV))))))))))
set_option maxRecDepth 100000 in
theorem oX3_begin : OkS YX3_begin [(0, 2), (1, 2)] [(0, 2), (1, 2)] 0 [] [] [] [] [] sX3_begin := by
  unfold sX3_begin
  exact (okSeq (p1 := 8) (Γ1 := [(0, 2), (1, 2)]) (okPut (p1 := 1) (p2 := 5) (k := 0) (ok_aload_n dX3_begin_0 (.head _) rfl (.head _)) (okF (p1 := 2) (k := 3) (ok_aload_n dX3_begin_1 (.head _) rfl (.tail _ (.head _))) ci_2 (by decide) kf_X3_30 dX3_begin_2 (.head _) rfl rfl) rfl ci_3 (by decide) kf_X3_35 rfl (fun z _ => qfit_int z) dX3_begin_5 (.head _) rfl)
 (okSeq (p1 := 16) (Γ1 := [(0, 2), (1, 2)]) (okPut (p1 := 9) (p2 := 13) (k := 1) (ok_aload_n dX3_begin_8 (.head _) rfl (.head _)) (okF (p1 := 10) (k := 4) (ok_aload_n dX3_begin_9 (.head _) rfl (.tail _ (.head _))) ci_2 (by decide) kf_X3_36 dX3_begin_10 (.head _) rfl rfl) rfl ci_3 (by decide) kf_X3_39 rfl (fun z _ => qfit_int z) dX3_begin_13 (.head _) rfl)
 (okSeq (p1 := 24) (Γ1 := [(0, 2), (1, 2)]) (okPut (p1 := 17) (p2 := 21) (k := 2) (ok_aload_n dX3_begin_16 (.head _) rfl (.head _)) (okF (p1 := 18) (k := 5) (ok_aload_n dX3_begin_17 (.head _) rfl (.tail _ (.head _))) ci_2 (by decide) kf_X3_40 dX3_begin_18 (.head _) rfl rfl) rfl ci_3 (by decide) kf_X3_43 rfl (fun z _ => qfit_int z) dX3_begin_21 (.head _) rfl)
 (okSeq (p1 := 29) (Γ1 := [(0, 2), (1, 2)]) (okPut (p1 := 25) (p2 := 26) (k := 3) (ok_aload_n dX3_begin_24 (.head _) rfl (.head _)) (ok_iconst dX3_begin_25 (.head _) (irn (by decide) (by decide))) rfl ci_3 (by decide) kf_X3_9 rfl (fun z _ => qfit_int z) dX3_begin_26 (.head _) rfl)
 (okSeq (p1 := 35) (Γ1 := [(0, 2), (1, 2)]) (okPut (p1 := 30) (p2 := 32) (k := 4) (ok_aload_n dX3_begin_29 (.head _) rfl (.head _)) (ok_ldc kk_X3_15 (by decide) dX3_begin_30 (.head _)) rfl ci_3 (by decide) kf_X3_16 rfl (fun z _ => qfit_int z) dX3_begin_32 (.head _) rfl)
 (okSeq (p1 := 41) (Γ1 := [(0, 2), (1, 2)]) (okPut (p1 := 36) (p2 := 38) (k := 5) (ok_aload_n dX3_begin_35 (.head _) rfl (.head _)) (ok_ldc kk_X3_15 (by decide) dX3_begin_36 (.head _)) rfl ci_3 (by decide) kf_X3_19 rfl (fun z _ => qfit_int z) dX3_begin_38 (.head _) rfl)
 (okSeq (p1 := 46) (Γ1 := [(0, 2), (1, 2)]) (okPut (p1 := 42) (p2 := 43) (k := 6) (ok_aload_n dX3_begin_41 (.head _) rfl (.head _)) (ok_iconst dX3_begin_42 (.head _) (irn (by decide) (by decide))) rfl ci_3 (by decide) kf_X3_44 rfl (fun z _ => qfit_int z) dX3_begin_43 (.head _) rfl)
 (okSeq (p1 := 51) (Γ1 := [(0, 2), (1, 2)]) (okPut (p1 := 47) (p2 := 48) (k := 7) (ok_aload_n dX3_begin_46 (.head _) rfl (.head _)) (ok_lconst0 dX3_begin_47 (.head _)) rfl ci_3 (by decide) kf_X3_47 rfl (fun z _ => qfit_long z) dX3_begin_48 (.head _) rfl)
 (okSeq (p1 := 57) (Γ1 := [(0, 2), (1, 2)]) (okPut (p1 := 52) (p2 := 54) (k := 8) (ok_aload_n dX3_begin_51 (.head _) rfl (.head _)) (ok_ldc kk_X3_22 (by decide) dX3_begin_52 (.head _)) rfl ci_3 (by decide) kf_X3_23 rfl (fun z _ => qfit_int z) dX3_begin_54 (.head _) rfl)
 (okSeq (p1 := 63) (Γ1 := [(0, 2), (1, 2)]) (okPut (p1 := 58) (p2 := 60) (k := 9) (ok_aload_n dX3_begin_57 (.head _) rfl (.head _)) (ok_ldc kk_X3_26 (by decide) dX3_begin_58 (.head _)) rfl ci_3 (by decide) kf_X3_27 rfl (fun z _ => qfit_int z) dX3_begin_60 (.head _) rfl)
 (okRetV rfl dX3_begin_63)))))))))))
def mX3_begin : QM := qM [2, 2] sX3_begin
theorem MX3_begin : MetY YX3_begin yX3_begin none [2, 2] mX3_begin := metY_of rfl (by decide +kernel) (.inr (.inr (.inr (.inl ⟨rfl, rfl⟩)))) (by decide) oX3_begin
