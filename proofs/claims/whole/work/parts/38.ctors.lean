/-! THE CONSTRUCTORS (laid by wip/whole/gen/gen4.py) -/
theorem nAl_len {κ m : Nat} {n : Int} {d : Int → Int} {N M : QN} (h : nAl κ n m d N = some M) : M.1.2.1 (N.1.2.2 : Int) = n := by
  unfold nAl at h
  split at h
  · cases h; exact if_pos rfl
  · cases h
theorem okN_end {Y : YT} {Γ Γ' : List (Nat × Nat)} {pc p1 tg : Nat} {E : List Nat} {off : Int} {s : NT} (h : OkN Y Γ Γ' pc [p1] s) (hd : decode Y.2.1 p1 = .ok (.goto off, 3)) (ht : (p1 : Int) + off = (tg : Int)) (hE : tg ∈ E) : OkN Y Γ Γ' pc E s := by
  intro Z hC hI L N r hf hk
  refine h Z hC hI L N r hf (fun t h1 => ?_)
  rw [List.mem_singleton.mp h1]
  intro k u hk1 hu1
  have hk := hk tg hE k u hk1 hu1
  obtain ⟨p, l, ee, R, s, m, args, below, meth, c, D, cy, A, H0, Q, cells, slots⟩ := Z
  obtain ⟨hx, hb, -⟩ := hC
  intro H locs ls q1 q2 q3
  exact lv_goto hx hb hd ht (hk H locs ls q1 q2 q3)
abbrev YX10_init : YT := (RX10, cX10_init, 1, 1, 12, 9)
theorem cf_X10_init : CF yX10_init 0 := ⟨by decide +kernel, by decide +kernel, by decide +kernel⟩
def sX10_init : NT :=
 (nSeq nSuper
 (nSeq (nFA 10 0 23 1000)
 (nSeq (nFA 10 2 20 1001)
 (nSeq (nFA 10 3 20 1001)
 (nFA 10 4 20 1001)))))
set_option maxRecDepth 100000 in
theorem oX10_init : OkN YX10_init [(0, 2)] [(0, 2)] 0 [40] sX10_init := by
  unfold sX10_init
  exact (okN_seq (p1 := 4) (Γ1 := [(0, 2)]) (okN_super (p0 := 1) (ok_aload_n dX10_init_0 (.head _) rfl (.head _)) km_X10_3 (Nat.le_of_ble_eq_true rfl) (Nat.le_of_ble_eq_true rfl) dX10_init_1 (.head _))
 (okN_seq (p1 := 13) (Γ1 := [(0, 2)]) (okN_FA (p0 := 5) (p1 := 8) (k := 0) (ok_aload_n dX10_init_4 (.head _) rfl (.head _)) (ok_sipush dX10_init_5 (.head _) ⟨by decide, by decide⟩) ak_23 ka_arrayClass_1_58 (by decide) (by decide) (Nat.le_of_ble_eq_true rfl) dX10_init_8 ci_10 (by decide) kf_X10_9 (.inr rfl) rfl (fun z => qfit_arr _ z) dX10_init_10 (.head _))
 (okN_seq (p1 := 22) (Γ1 := [(0, 2)]) (okN_FA (p0 := 14) (p1 := 17) (k := 2) (ok_aload_n dX10_init_13 (.head _) rfl (.head _)) (ok_sipush dX10_init_14 (.head _) ⟨by decide, by decide⟩) ak_20 ka_arrayClass_1_59 (by decide) (by decide) (Nat.le_of_ble_eq_true rfl) dX10_init_17 ci_10 (by decide) kf_X10_15 (.inr rfl) rfl (fun z => qfit_arr _ z) dX10_init_19 (.head _))
 (okN_seq (p1 := 31) (Γ1 := [(0, 2)]) (okN_FA (p0 := 23) (p1 := 26) (k := 3) (ok_aload_n dX10_init_22 (.head _) rfl (.head _)) (ok_sipush dX10_init_23 (.head _) ⟨by decide, by decide⟩) ak_20 ka_arrayClass_1_59 (by decide) (by decide) (Nat.le_of_ble_eq_true rfl) dX10_init_26 ci_10 (by decide) kf_X10_19 (.inr rfl) rfl (fun z => qfit_arr _ z) dX10_init_28 (.head _))
 (okN_FA (p0 := 32) (p1 := 35) (k := 4) (ok_aload_n dX10_init_31 (.head _) rfl (.head _)) (ok_sipush dX10_init_32 (.head _) ⟨by decide, by decide⟩) ak_20 ka_arrayClass_1_59 (by decide) (by decide) (Nat.le_of_ble_eq_true rfl) dX10_init_35 ci_10 (by decide) kf_X10_22 (.inr rfl) rfl (fun z => qfit_arr _ z) dX10_init_37 (.head _))))))
def mX10_init : NM := nM sX10_init
theorem MX10_init : MetN YX10_init yX10_init 4 4003 mX10_init := metN_of rfl rfl (by decide +kernel) (by decide) dX10_init_40 oX10_init

abbrev YX5_init : YT := (RX5, cX5_init, 1, 1, 12, 9)
theorem cf_X5_init : CF yX5_init 0 := ⟨by decide +kernel, by decide +kernel, by decide +kernel⟩
def sX5_init : NT :=
 (nSeq nSuper
 (nSeq (nFA 5 5 20 8)
 (nSeq (nFA 5 6 20 8)
 (nFA 5 8 20 60))))
set_option maxRecDepth 100000 in
theorem oX5_init : OkN YX5_init [(0, 2)] [(0, 2)] 0 [28] sX5_init := by
  unfold sX5_init
  exact (okN_seq (p1 := 4) (Γ1 := [(0, 2)]) (okN_super (p0 := 1) (ok_aload_n dX5_init_0 (.head _) rfl (.head _)) km_X5_3 (Nat.le_of_ble_eq_true rfl) (Nat.le_of_ble_eq_true rfl) dX5_init_1 (.head _))
 (okN_seq (p1 := 12) (Γ1 := [(0, 2)]) (okN_FA (p0 := 5) (p1 := 7) (k := 5) (ok_aload_n dX5_init_4 (.head _) rfl (.head _)) (ok_bipush dX5_init_5 (.head _) (irn4 (by decide) (by decide))) ak_20 ka_arrayClass_1_59 (by decide) (by decide) (Nat.le_of_ble_eq_true rfl) dX5_init_7 ci_5 (by decide) kf_X5_11 (.inr rfl) rfl (fun z => qfit_arr _ z) dX5_init_9 (.head _))
 (okN_seq (p1 := 20) (Γ1 := [(0, 2)]) (okN_FA (p0 := 13) (p1 := 15) (k := 6) (ok_aload_n dX5_init_12 (.head _) rfl (.head _)) (ok_bipush dX5_init_13 (.head _) (irn4 (by decide) (by decide))) ak_20 ka_arrayClass_1_59 (by decide) (by decide) (Nat.le_of_ble_eq_true rfl) dX5_init_15 ci_5 (by decide) kf_X5_15 (.inr rfl) rfl (fun z => qfit_arr _ z) dX5_init_17 (.head _))
 (okN_FA (p0 := 21) (p1 := 23) (k := 8) (ok_aload_n dX5_init_20 (.head _) rfl (.head _)) (ok_bipush dX5_init_21 (.head _) (irn4 (by decide) (by decide))) ak_20 ka_arrayClass_1_59 (by decide) (by decide) (Nat.le_of_ble_eq_true rfl) dX5_init_23 ci_5 (by decide) kf_X5_18 (.inr rfl) rfl (fun z => qfit_arr _ z) dX5_init_25 (.head _)))))
def mX5_init : NM := nM sX5_init
theorem MX5_init : MetN YX5_init yX5_init 3 76 mX5_init := metN_of rfl rfl (by decide +kernel) (by decide) dX5_init_28 oX5_init

abbrev YX1_init : YT := (RX1, cX1_init, 1, 1, 12, 9)
theorem cf_X1_init : CF yX1_init 0 := ⟨by decide +kernel, by decide +kernel, by decide +kernel⟩
def sX1_init : NT :=
 (nSeq nSuper
 (nSeq (nFA 1 3 20 60)
 (nSeq (nFA 1 4 20 60)
 (nSeq (nFA 1 5 20 4)
 (nSeq (nFA 1 6 20 4)
 (nFA 1 7 20 30))))))
set_option maxRecDepth 100000 in
theorem oX1_init : OkN YX1_init [(0, 2)] [(0, 2)] 0 [42] sX1_init := by
  unfold sX1_init
  exact (okN_seq (p1 := 4) (Γ1 := [(0, 2)]) (okN_super (p0 := 1) (ok_aload_n dX1_init_0 (.head _) rfl (.head _)) km_X1_3 (Nat.le_of_ble_eq_true rfl) (Nat.le_of_ble_eq_true rfl) dX1_init_1 (.head _))
 (okN_seq (p1 := 12) (Γ1 := [(0, 2)]) (okN_FA (p0 := 5) (p1 := 7) (k := 3) (ok_aload_n dX1_init_4 (.head _) rfl (.head _)) (ok_bipush dX1_init_5 (.head _) (irn4 (by decide) (by decide))) ak_20 ka_arrayClass_1_59 (by decide) (by decide) (Nat.le_of_ble_eq_true rfl) dX1_init_7 ci_1 (by decide) kf_X1_9 (.inr rfl) rfl (fun z => qfit_arr _ z) dX1_init_9 (.head _))
 (okN_seq (p1 := 20) (Γ1 := [(0, 2)]) (okN_FA (p0 := 13) (p1 := 15) (k := 4) (ok_aload_n dX1_init_12 (.head _) rfl (.head _)) (ok_bipush dX1_init_13 (.head _) (irn4 (by decide) (by decide))) ak_20 ka_arrayClass_1_59 (by decide) (by decide) (Nat.le_of_ble_eq_true rfl) dX1_init_15 ci_1 (by decide) kf_X1_15 (.inr rfl) rfl (fun z => qfit_arr _ z) dX1_init_17 (.head _))
 (okN_seq (p1 := 27) (Γ1 := [(0, 2)]) (okN_FA (p0 := 21) (p1 := 22) (k := 5) (ok_aload_n dX1_init_20 (.head _) rfl (.head _)) (ok_iconst dX1_init_21 (.head _) (irn (by decide) (by decide))) ak_20 ka_arrayClass_1_59 (by decide) (by decide) (Nat.le_of_ble_eq_true rfl) dX1_init_22 ci_1 (by decide) kf_X1_18 (.inr rfl) rfl (fun z => qfit_arr _ z) dX1_init_24 (.head _))
 (okN_seq (p1 := 34) (Γ1 := [(0, 2)]) (okN_FA (p0 := 28) (p1 := 29) (k := 6) (ok_aload_n dX1_init_27 (.head _) rfl (.head _)) (ok_iconst dX1_init_28 (.head _) (irn (by decide) (by decide))) ak_20 ka_arrayClass_1_59 (by decide) (by decide) (Nat.le_of_ble_eq_true rfl) dX1_init_29 ci_1 (by decide) kf_X1_21 (.inr rfl) rfl (fun z => qfit_arr _ z) dX1_init_31 (.head _))
 (okN_FA (p0 := 35) (p1 := 37) (k := 7) (ok_aload_n dX1_init_34 (.head _) rfl (.head _)) (ok_bipush dX1_init_35 (.head _) (irn4 (by decide) (by decide))) ak_20 ka_arrayClass_1_59 (by decide) (by decide) (Nat.le_of_ble_eq_true rfl) dX1_init_37 ci_1 (by decide) kf_X1_24 (.inr rfl) rfl (fun z => qfit_arr _ z) dX1_init_39 (.head _)))))))
def mX1_init : NM := nM sX1_init
theorem MX1_init : MetN YX1_init yX1_init 5 158 mX1_init := metN_of rfl rfl (by decide +kernel) (by decide) dX1_init_42 oX1_init

abbrev YX2_init : YT := (RX2, cX2_init, 1, 1, 12, 9)
theorem cf_X2_init : CF yX2_init 0 := ⟨by decide +kernel, by decide +kernel, by decide +kernel⟩
def sX2_init : NT :=
 nSuper
set_option maxRecDepth 100000 in
theorem oX2_init : OkN YX2_init [(0, 2)] [(0, 2)] 0 [4] sX2_init := by
  unfold sX2_init
  exact (okN_super (p0 := 1) (ok_aload_n dX2_init_0 (.head _) rfl (.head _)) km_X2_3 (Nat.le_of_ble_eq_true rfl) (Nat.le_of_ble_eq_true rfl) dX2_init_1 (.head _))
def mX2_init : NM := nM sX2_init
theorem MX2_init : MetN YX2_init yX2_init 0 0 mX2_init := metN_of rfl rfl (by decide +kernel) (by decide) dX2_init_4 oX2_init

abbrev YX0_init : YT := (RX0, cX0_init, 1, 1, 12, 9)
theorem cf_X0_init : CF yX0_init 0 := ⟨by decide +kernel, by decide +kernel, by decide +kernel⟩
def sX0_init : NT :=
 (nSeq nSuper
 (nSeq (nLift (sPut 0 1 (eV 0) (eI 1)))
 (nLift (sPut 0 2 (eV 0) (eI 1)))))
set_option maxRecDepth 100000 in
theorem oX0_init : OkN YX0_init [(0, 2)] [(0, 2)] 0 [14] sX0_init := by
  unfold sX0_init
  exact (okN_seq (p1 := 4) (Γ1 := [(0, 2)]) (okN_super (p0 := 1) (ok_aload_n dX0_init_0 (.head _) rfl (.head _)) km_X0_1 (Nat.le_of_ble_eq_true rfl) (Nat.le_of_ble_eq_true rfl) dX0_init_1 (.head _))
 (okN_seq (p1 := 9) (Γ1 := [(0, 2)]) (okN_lift (okPut (p1 := 5) (p2 := 6) (k := 1) (ok_aload_n dX0_init_4 (.head _) rfl (.head _)) (ok_iconst dX0_init_5 (.head _) (irn (by decide) (by decide))) rfl ci_0 (by decide) kf_X0_7 rfl (fun z _ => qfit_int z) dX0_init_6 (.head _) rfl))
 (okN_lift (okPut (p1 := 10) (p2 := 11) (k := 2) (ok_aload_n dX0_init_9 (.head _) rfl (.head _)) (ok_iconst dX0_init_10 (.head _) (irn (by decide) (by decide))) rfl ci_0 (by decide) kf_X0_13 rfl (fun z _ => qfit_int z) dX0_init_11 (.head _) rfl))))
def mX0_init : NM := nM sX0_init
theorem MX0_init : MetN YX0_init yX0_init 0 0 mX0_init := metN_of rfl rfl (by decide +kernel) (by decide) dX0_init_14 oX0_init

abbrev YX6_init : YT := (RX6, cX6_init, 2, 2, 32, 9)
theorem cf_X6_init : CF yX6_init 0 := ⟨by decide +kernel, by decide +kernel, by decide +kernel⟩
def nbX6_init_1 : NT :=
 (nSeq (nAO 32 (eF 6 3 (eV 0)) (eV 1) 2 11 mX2_init 0 0)
 (nLift (sInc 1 1)))
set_option maxRecDepth 100000 in
theorem onbX6_init_1 : OkN YX6_init [(0, 2), (1, 0)] [(0, 2), (1, 0)] 43 [38] nbX6_init_1 := by
  unfold nbX6_init_1
  exact okN_end (p1 := 59) (tg := 38) (okN_seq (p1 := 56) (Γ1 := [(0, 2), (1, 0)]) (okN_AO (p0 := 47) (p1 := 48) (κ := 32) (okF (p1 := 44) (k := 3) (ok_aload_n dX6_init_43 (.head _) rfl (.head _)) ci_6 (by decide) kf_X6_17 dX6_init_44 (.head _) rfl rfl) (ok_iload_n dX6_init_47 (.head _) rfl (.tail _ (.head _)) t_0) ⟨⟨_, _, ci_2, by decide +kernel⟩, kl_X6_15, kz_X2, kn_X2, MX2_init, cf_X2_init, kc_X2_init, (.inr ⟨_, List.mem_of_getElem? (i := 3) rfl⟩), ki_X2_init, rfl, (Nat.le_of_ble_eq_true rfl), (Nat.le_of_ble_eq_true rfl)⟩ (by decide) rfl rfl dX6_init_48 dX6_init_51 dX6_init_52 dX6_init_55 (.head _))
 (okN_lift (okInc (.tail _ (.head _)) dX6_init_56 (by decide) (.head _) (by decide)))) dX6_init_59 rfl (.head _)
def nbX6_init_2 : NT :=
 (nSeq (nAO 30 (eF 6 4 (eV 0)) (eV 1) 0 4 mX0_init 0 0)
 (nLift (sInc 1 1)))
set_option maxRecDepth 100000 in
theorem onbX6_init_2 : OkN YX6_init [(0, 2), (1, 0)] [(0, 2), (1, 0)] 69 [64] nbX6_init_2 := by
  unfold nbX6_init_2
  exact okN_end (p1 := 85) (tg := 64) (okN_seq (p1 := 82) (Γ1 := [(0, 2), (1, 0)]) (okN_AO (p0 := 73) (p1 := 74) (κ := 30) (okF (p1 := 70) (k := 4) (ok_aload_n dX6_init_69 (.head _) rfl (.head _)) ci_6 (by decide) kf_X6_23 dX6_init_70 (.head _) rfl rfl) (ok_iload_n dX6_init_73 (.head _) rfl (.tail _ (.head _)) t_0) ⟨⟨_, _, ci_0, by decide +kernel⟩, kl_X6_21, kz_X0, kn_X0, MX0_init, cf_X0_init, kc_X0_init, (.inr ⟨_, List.mem_of_getElem? (i := 4) rfl⟩), ki_X0_init, rfl, (Nat.le_of_ble_eq_true rfl), (Nat.le_of_ble_eq_true rfl)⟩ (by decide) rfl rfl dX6_init_74 dX6_init_77 dX6_init_78 dX6_init_81 (.head _))
 (okN_lift (okInc (.tail _ (.head _)) dX6_init_82 (by decide) (.head _) (by decide)))) dX6_init_85 rfl (.head _)
def sX6_init : NT :=
 (nSeq nSuper
 (nSeq (nLift (sPut 6 0 (eV 0) (eI 1)))
 (nSeq (nFA 6 3 32 4)
 (nSeq (nFA 6 4 30 4)
 (nSeq (nFO 6 5 1 9 mX1_init 5 158)
 (nSeq (nLift (sSet 1 (eI 0)))
 (nSeq (nWh (cB qlt (eV 1) (eI 4)) nbX6_init_1 100)
 (nSeq (nLift (sSet 1 (eI 0)))
 (nWh (cB qlt (eV 1) (eI 4)) nbX6_init_2 100)))))))))
set_option maxRecDepth 100000 in
theorem oX6_init : OkN YX6_init [(0, 2)] [(0, 2), (1, 0)] 0 [88] sX6_init := by
  unfold sX6_init
  exact (okN_seq (p1 := 4) (Γ1 := [(0, 2)]) (okN_super (p0 := 1) (ok_aload_n dX6_init_0 (.head _) rfl (.head _)) km_X6_3 (Nat.le_of_ble_eq_true rfl) (Nat.le_of_ble_eq_true rfl) dX6_init_1 (.head _))
 (okN_seq (p1 := 9) (Γ1 := [(0, 2)]) (okN_lift (okPut (p1 := 5) (p2 := 6) (k := 0) (ok_aload_n dX6_init_4 (.head _) rfl (.head _)) (ok_iconst dX6_init_5 (.head _) (irn (by decide) (by decide))) rfl ci_6 (by decide) kf_X6_9 rfl (fun z _ => qfit_int z) dX6_init_6 (.head _) rfl))
 (okN_seq (p1 := 17) (Γ1 := [(0, 2)]) (okN_FR (κ := 32) (p0 := 10) (p1 := 11) (k := 3) (ok_aload_n dX6_init_9 (.head _) rfl (.head _)) (ok_iconst dX6_init_10 (.head _) (irn (by decide) (by decide))) (by decide) (by decide) rfl rfl (List.mem_of_getElem? (i := 0) rfl) kl_X6_15 (by decide) (by decide) dX6_init_11 ci_6 (by decide) kf_X6_17 (.inr rfl) rfl (fun z => qfit_arr _ z) dX6_init_14 (.head _))
 (okN_seq (p1 := 25) (Γ1 := [(0, 2)]) (okN_FR (κ := 30) (p0 := 18) (p1 := 19) (k := 4) (ok_aload_n dX6_init_17 (.head _) rfl (.head _)) (ok_iconst dX6_init_18 (.head _) (irn (by decide) (by decide))) (by decide) (by decide) rfl rfl (List.mem_of_getElem? (i := 1) rfl) kl_X6_21 (by decide) (by decide) dX6_init_19 ci_6 (by decide) kf_X6_23 (.inr rfl) rfl (fun z => qfit_arr _ z) dX6_init_22 (.head _))
 (okN_seq (p1 := 36) (Γ1 := [(0, 2)]) (okN_FO (p0 := 26) (k := 5) (ok_aload_n dX6_init_25 (.head _) rfl (.head _)) ⟨⟨_, _, ci_1, by decide +kernel⟩, kl_X6_27, kz_X1, kn_X1, MX1_init, cf_X1_init, kc_X1_init, (.inr ⟨_, List.mem_of_getElem? (i := 2) rfl⟩), ki_X1_init, rfl, (Nat.le_of_ble_eq_true rfl), (Nat.le_of_ble_eq_true rfl)⟩ dX6_init_26 dX6_init_29 dX6_init_30 ci_6 (by decide) kf_X6_30 (.inr rfl) rfl (fun z => qfit_obj _ z) dX6_init_33 (.head _))
 (okN_seq (p1 := 38) (Γ1 := [(0, 2), (1, 0)]) (okN_lift (ok_istore_n (Γ' := [(0, 2), (1, 0)]) (p1 := 37) (τ := 0) (ok_iconst dX6_init_36 (.head _) (irn (by decide) (by decide))) t_0 dX6_init_37 rfl (by decide) (.head _) (by decide)))
 (okN_seq (p1 := 62) (Γ1 := [(0, 2), (1, 0)]) (okN_while (p1 := 43) (okCBf (p1 := 39) (p2 := 40) (τa := 0) (τb := 0) (ok_iload_n dX6_init_38 (.head _) rfl (.tail _ (.head _)) t_0) (ok_iconst dX6_init_39 (.head _) (irn (by decide) (by decide))) (j_icmp_ge dX6_init_40 rfl) nq_lt (.head _) (.head _)) onbX6_init_1 100)
 (okN_seq (p1 := 64) (Γ1 := [(0, 2), (1, 0)]) (okN_lift (ok_istore_n (Γ' := [(0, 2), (1, 0)]) (p1 := 63) (τ := 0) (ok_iconst dX6_init_62 (.head _) (irn (by decide) (by decide))) t_0 dX6_init_63 rfl (by decide) (.head _) (by decide)))
 (okN_while (p1 := 69) (okCBf (p1 := 65) (p2 := 66) (τa := 0) (τb := 0) (ok_iload_n dX6_init_64 (.head _) rfl (.tail _ (.head _)) t_0) (ok_iconst dX6_init_65 (.head _) (irn (by decide) (by decide))) (j_icmp_ge dX6_init_66 rfl) nq_lt (.head _) (.head _)) onbX6_init_2 100)))))))))
def mX6_init : NM := nM sX6_init
theorem MX6_init : MetN YX6_init yX6_init 16 235 mX6_init := metN_of rfl rfl (by decide +kernel) (by decide) dX6_init_88 oX6_init

abbrev YX3_init : YT := (RX3, cX3_init, 1, 1, 12, 9)
theorem cf_X3_init : CF yX3_init 0 := ⟨by decide +kernel, by decide +kernel, by decide +kernel⟩
def sX3_init : NT :=
 (nSeq nSuper
 (nSeq (nLift (sPut 3 3 (eV 0) (eI (-1))))
 (nSeq (nLift (sPut 3 4 (eV 0) (eI (-2147483648))))
 (nSeq (nLift (sPut 3 5 (eV 0) (eI (-2147483648))))
 (nSeq (nLift (sPut 3 8 (eV 0) (eI (-2000000000))))
 (nLift (sPut 3 9 (eV 0) (eI 2000000000))))))))
set_option maxRecDepth 100000 in
theorem oX3_init : OkN YX3_init [(0, 2)] [(0, 2)] 0 [33] sX3_init := by
  unfold sX3_init
  exact (okN_seq (p1 := 4) (Γ1 := [(0, 2)]) (okN_super (p0 := 1) (ok_aload_n dX3_init_0 (.head _) rfl (.head _)) km_X3_3 (Nat.le_of_ble_eq_true rfl) (Nat.le_of_ble_eq_true rfl) dX3_init_1 (.head _))
 (okN_seq (p1 := 9) (Γ1 := [(0, 2)]) (okN_lift (okPut (p1 := 5) (p2 := 6) (k := 3) (ok_aload_n dX3_init_4 (.head _) rfl (.head _)) (ok_iconst dX3_init_5 (.head _) (irn (by decide) (by decide))) rfl ci_3 (by decide) kf_X3_9 rfl (fun z _ => qfit_int z) dX3_init_6 (.head _) rfl))
 (okN_seq (p1 := 15) (Γ1 := [(0, 2)]) (okN_lift (okPut (p1 := 10) (p2 := 12) (k := 4) (ok_aload_n dX3_init_9 (.head _) rfl (.head _)) (ok_ldc kk_X3_15 (by decide) dX3_init_10 (.head _)) rfl ci_3 (by decide) kf_X3_16 rfl (fun z _ => qfit_int z) dX3_init_12 (.head _) rfl))
 (okN_seq (p1 := 21) (Γ1 := [(0, 2)]) (okN_lift (okPut (p1 := 16) (p2 := 18) (k := 5) (ok_aload_n dX3_init_15 (.head _) rfl (.head _)) (ok_ldc kk_X3_15 (by decide) dX3_init_16 (.head _)) rfl ci_3 (by decide) kf_X3_19 rfl (fun z _ => qfit_int z) dX3_init_18 (.head _) rfl))
 (okN_seq (p1 := 27) (Γ1 := [(0, 2)]) (okN_lift (okPut (p1 := 22) (p2 := 24) (k := 8) (ok_aload_n dX3_init_21 (.head _) rfl (.head _)) (ok_ldc kk_X3_22 (by decide) dX3_init_22 (.head _)) rfl ci_3 (by decide) kf_X3_23 rfl (fun z _ => qfit_int z) dX3_init_24 (.head _) rfl))
 (okN_lift (okPut (p1 := 28) (p2 := 30) (k := 9) (ok_aload_n dX3_init_27 (.head _) rfl (.head _)) (ok_ldc kk_X3_26 (by decide) dX3_init_28 (.head _)) rfl ci_3 (by decide) kf_X3_27 rfl (fun z _ => qfit_int z) dX3_init_30 (.head _) rfl)))))))
def mX3_init : NM := nM sX3_init
theorem MX3_init : MetN YX3_init yX3_init 0 0 mX3_init := metN_of rfl rfl (by decide +kernel) (by decide) dX3_init_33 oX3_init

abbrev YX4_init : YT := (RX4, cX4_init, 1, 1, 12, 9)
theorem cf_X4_init : CF yX4_init 0 := ⟨by decide +kernel, by decide +kernel, by decide +kernel⟩
def sX4_init : NT :=
 (nSeq nSuper
 (nSeq (nFA 4 3 20 24)
 (nSeq (nFA 4 4 20 24)
 (nSeq (nFA 4 5 20 30)
 (nFA 4 6 24 30)))))
set_option maxRecDepth 100000 in
theorem oX4_init : OkN YX4_init [(0, 2)] [(0, 2)] 0 [36] sX4_init := by
  unfold sX4_init
  exact (okN_seq (p1 := 4) (Γ1 := [(0, 2)]) (okN_super (p0 := 1) (ok_aload_n dX4_init_0 (.head _) rfl (.head _)) km_X4_3 (Nat.le_of_ble_eq_true rfl) (Nat.le_of_ble_eq_true rfl) dX4_init_1 (.head _))
 (okN_seq (p1 := 12) (Γ1 := [(0, 2)]) (okN_FA (p0 := 5) (p1 := 7) (k := 3) (ok_aload_n dX4_init_4 (.head _) rfl (.head _)) (ok_bipush dX4_init_5 (.head _) (irn4 (by decide) (by decide))) ak_20 ka_arrayClass_1_59 (by decide) (by decide) (Nat.le_of_ble_eq_true rfl) dX4_init_7 ci_4 (by decide) kf_X4_9 (.inr rfl) rfl (fun z => qfit_arr _ z) dX4_init_9 (.head _))
 (okN_seq (p1 := 20) (Γ1 := [(0, 2)]) (okN_FA (p0 := 13) (p1 := 15) (k := 4) (ok_aload_n dX4_init_12 (.head _) rfl (.head _)) (ok_bipush dX4_init_13 (.head _) (irn4 (by decide) (by decide))) ak_20 ka_arrayClass_1_59 (by decide) (by decide) (Nat.le_of_ble_eq_true rfl) dX4_init_15 ci_4 (by decide) kf_X4_15 (.inr rfl) rfl (fun z => qfit_arr _ z) dX4_init_17 (.head _))
 (okN_seq (p1 := 28) (Γ1 := [(0, 2)]) (okN_FA (p0 := 21) (p1 := 23) (k := 5) (ok_aload_n dX4_init_20 (.head _) rfl (.head _)) (ok_bipush dX4_init_21 (.head _) (irn4 (by decide) (by decide))) ak_20 ka_arrayClass_1_59 (by decide) (by decide) (Nat.le_of_ble_eq_true rfl) dX4_init_23 ci_4 (by decide) kf_X4_18 (.inr rfl) rfl (fun z => qfit_arr _ z) dX4_init_25 (.head _))
 (okN_FA (p0 := 29) (p1 := 31) (k := 6) (ok_aload_n dX4_init_28 (.head _) rfl (.head _)) (ok_bipush dX4_init_29 (.head _) (irn4 (by decide) (by decide))) ak_24 ka_arrayClass_2_128 (by decide) (by decide) (Nat.le_of_ble_eq_true rfl) dX4_init_31 ci_4 (by decide) kf_X4_21 (.inr rfl) rfl (fun z => qfit_arr _ z) dX4_init_33 (.head _))))))
def mX4_init : NM := nM sX4_init
theorem MX4_init : MetN YX4_init yX4_init 4 108 mX4_init := metN_of rfl rfl (by decide +kernel) (by decide) dX4_init_36 oX4_init

abbrev YX9_init : YT := (RX9, cX9_init, 1, 1, 12, 9)
theorem cf_X9_init : CF yX9_init 0 := ⟨by decide +kernel, by decide +kernel, by decide +kernel⟩
def sX9_init : NT :=
 (nSeq nSuper
 (nSeq (nLift (sPut 9 3 (eV 0) (eI (-2147483648))))
 (nSeq (nLift (sPut 9 4 (eV 0) (eI (-2147483648))))
 (nLift (sPut 9 5 (eV 0) (eI (-2147483648)))))))
set_option maxRecDepth 100000 in
theorem oX9_init : OkN YX9_init [(0, 2)] [(0, 2)] 0 [22] sX9_init := by
  unfold sX9_init
  exact (okN_seq (p1 := 4) (Γ1 := [(0, 2)]) (okN_super (p0 := 1) (ok_aload_n dX9_init_0 (.head _) rfl (.head _)) km_X9_3 (Nat.le_of_ble_eq_true rfl) (Nat.le_of_ble_eq_true rfl) dX9_init_1 (.head _))
 (okN_seq (p1 := 10) (Γ1 := [(0, 2)]) (okN_lift (okPut (p1 := 5) (p2 := 7) (k := 3) (ok_aload_n dX9_init_4 (.head _) rfl (.head _)) (ok_ldc kk_X9_9 (by decide) dX9_init_5 (.head _)) rfl ci_9 (by decide) kf_X9_10 rfl (fun z _ => qfit_int z) dX9_init_7 (.head _) rfl))
 (okN_seq (p1 := 16) (Γ1 := [(0, 2)]) (okN_lift (okPut (p1 := 11) (p2 := 13) (k := 4) (ok_aload_n dX9_init_10 (.head _) rfl (.head _)) (ok_ldc kk_X9_9 (by decide) dX9_init_11 (.head _)) rfl ci_9 (by decide) kf_X9_16 rfl (fun z _ => qfit_int z) dX9_init_13 (.head _) rfl))
 (okN_lift (okPut (p1 := 17) (p2 := 19) (k := 5) (ok_aload_n dX9_init_16 (.head _) rfl (.head _)) (ok_ldc kk_X9_9 (by decide) dX9_init_17 (.head _)) rfl ci_9 (by decide) kf_X9_19 rfl (fun z _ => qfit_int z) dX9_init_19 (.head _) rfl)))))
def mX9_init : NM := nM sX9_init
theorem MX9_init : MetN YX9_init yX9_init 0 0 mX9_init := metN_of rfl rfl (by decide +kernel) (by decide) dX9_init_22 oX9_init

abbrev YX7_init : YT := (RX7, cX7_init, 2, 2, 32, 9)
theorem cf_X7_init : CF yX7_init 0 := ⟨by decide +kernel, by decide +kernel, by decide +kernel⟩
def nbX7_init_1 : NT :=
 (nSeq (nAO 39 (eF 7 1 (eV 0)) (eV 1) 9 6 mX9_init 0 0)
 (nLift (sInc 1 1)))
set_option maxRecDepth 100000 in
theorem onbX7_init_1 : OkN YX7_init [(0, 2), (1, 0)] [(0, 2), (1, 0)] 27 [22] nbX7_init_1 := by
  unfold nbX7_init_1
  exact okN_end (p1 := 43) (tg := 22) (okN_seq (p1 := 40) (Γ1 := [(0, 2), (1, 0)]) (okN_AO (p0 := 31) (p1 := 32) (κ := 39) (okF (p1 := 28) (k := 1) (ok_aload_n dX7_init_27 (.head _) rfl (.head _)) ci_7 (by decide) kf_X7_17 dX7_init_28 (.head _) rfl rfl) (ok_iload_n dX7_init_31 (.head _) rfl (.tail _ (.head _)) t_0) ⟨⟨_, _, ci_9, by decide +kernel⟩, kl_X7_15, kz_X9, kn_X9, MX9_init, cf_X9_init, kc_X9_init, (.inr ⟨_, List.mem_of_getElem? (i := 7) rfl⟩), ki_X9_init, rfl, (Nat.le_of_ble_eq_true rfl), (Nat.le_of_ble_eq_true rfl)⟩ (by decide) rfl rfl dX7_init_32 dX7_init_35 dX7_init_36 dX7_init_39 (.head _))
 (okN_lift (okInc (.tail _ (.head _)) dX7_init_40 (by decide) (.head _) (by decide)))) dX7_init_43 rfl (.head _)
def sX7_init : NT :=
 (nSeq nSuper
 (nSeq (nFA 7 0 20 120)
 (nSeq (nFA 7 1 39 4)
 (nSeq (nLift (sSet 1 (eI 0)))
 (nWh (cB qlt (eV 1) (eI 4)) nbX7_init_1 100)))))
set_option maxRecDepth 100000 in
theorem oX7_init : OkN YX7_init [(0, 2)] [(0, 2), (1, 0)] 0 [46] sX7_init := by
  unfold sX7_init
  exact (okN_seq (p1 := 4) (Γ1 := [(0, 2)]) (okN_super (p0 := 1) (ok_aload_n dX7_init_0 (.head _) rfl (.head _)) km_X7_3 (Nat.le_of_ble_eq_true rfl) (Nat.le_of_ble_eq_true rfl) dX7_init_1 (.head _))
 (okN_seq (p1 := 12) (Γ1 := [(0, 2)]) (okN_FA (p0 := 5) (p1 := 7) (k := 0) (ok_aload_n dX7_init_4 (.head _) rfl (.head _)) (ok_bipush dX7_init_5 (.head _) (irn4 (by decide) (by decide))) ak_20 ka_arrayClass_1_59 (by decide) (by decide) (Nat.le_of_ble_eq_true rfl) dX7_init_7 ci_7 (by decide) kf_X7_11 (.inr rfl) rfl (fun z => qfit_arr _ z) dX7_init_9 (.head _))
 (okN_seq (p1 := 20) (Γ1 := [(0, 2)]) (okN_FR (κ := 39) (p0 := 13) (p1 := 14) (k := 1) (ok_aload_n dX7_init_12 (.head _) rfl (.head _)) (ok_iconst dX7_init_13 (.head _) (irn (by decide) (by decide))) (by decide) (by decide) rfl rfl (List.mem_of_getElem? (i := 6) rfl) kl_X7_15 (by decide) (by decide) dX7_init_14 ci_7 (by decide) kf_X7_17 (.inr rfl) rfl (fun z => qfit_arr _ z) dX7_init_17 (.head _))
 (okN_seq (p1 := 22) (Γ1 := [(0, 2), (1, 0)]) (okN_lift (ok_istore_n (Γ' := [(0, 2), (1, 0)]) (p1 := 21) (τ := 0) (ok_iconst dX7_init_20 (.head _) (irn (by decide) (by decide))) t_0 dX7_init_21 rfl (by decide) (.head _) (by decide)))
 (okN_while (p1 := 27) (okCBf (p1 := 23) (p2 := 24) (τa := 0) (τb := 0) (ok_iload_n dX7_init_22 (.head _) rfl (.tail _ (.head _)) t_0) (ok_iconst dX7_init_23 (.head _) (irn (by decide) (by decide))) (j_icmp_ge dX7_init_24 rfl) nq_lt (.head _) (.head _)) onbX7_init_1 100)))))
def mX7_init : NM := nM sX7_init
theorem MX7_init : MetN YX7_init yX7_init 6 148 mX7_init := metN_of rfl rfl (by decide +kernel) (by decide) dX7_init_46 oX7_init

abbrev YX8_init : YT := (RX8, cX8_init, 2, 3, 53, 9)
theorem cf_X8_init : CF yX8_init 0 := ⟨by decide +kernel, by decide +kernel, by decide +kernel⟩
def nbX8_init_1 : NT :=
 (nSeq (nAO 33 (eF 8 2 (eV 0)) (eV 1) 3 10 mX3_init 0 0)
 (nSeq (nAO 34 (eF 8 3 (eV 0)) (eV 1) 4 8 mX4_init 4 108)
 (nLift (sInc 1 1))))
set_option maxRecDepth 100000 in
theorem onbX8_init_1 : OkN YX8_init [(0, 2), (1, 0)] [(0, 2), (1, 0)] 35 [30] nbX8_init_1 := by
  unfold nbX8_init_1
  exact okN_end (p1 := 64) (tg := 30) (okN_seq (p1 := 48) (Γ1 := [(0, 2), (1, 0)]) (okN_AO (p0 := 39) (p1 := 40) (κ := 33) (okF (p1 := 36) (k := 2) (ok_aload_n dX8_init_35 (.head _) rfl (.head _)) ci_8 (by decide) kf_X8_11 dX8_init_36 (.head _) rfl rfl) (ok_iload_n dX8_init_39 (.head _) rfl (.tail _ (.head _)) t_0) ⟨⟨_, _, ci_3, by decide +kernel⟩, kl_X8_9, kz_X3, kn_X3, MX3_init, cf_X3_init, kc_X3_init, (.inr ⟨_, List.mem_of_getElem? (i := 5) rfl⟩), ki_X3_init, rfl, (Nat.le_of_ble_eq_true rfl), (Nat.le_of_ble_eq_true rfl)⟩ (by decide) rfl rfl dX8_init_40 dX8_init_43 dX8_init_44 dX8_init_47 (.head _))
 (okN_seq (p1 := 61) (Γ1 := [(0, 2), (1, 0)]) (okN_AO (p0 := 52) (p1 := 53) (κ := 34) (okF (p1 := 49) (k := 3) (ok_aload_n dX8_init_48 (.head _) rfl (.head _)) ci_8 (by decide) kf_X8_19 dX8_init_49 (.head _) rfl rfl) (ok_iload_n dX8_init_52 (.head _) rfl (.tail _ (.head _)) t_0) ⟨⟨_, _, ci_4, by decide +kernel⟩, kl_X8_17, kz_X4, kn_X4, MX4_init, cf_X4_init, kc_X4_init, (.inr ⟨_, List.mem_of_getElem? (i := 6) rfl⟩), ki_X4_init, rfl, (Nat.le_of_ble_eq_true rfl), (Nat.le_of_ble_eq_true rfl)⟩ (by decide) rfl rfl dX8_init_53 dX8_init_56 dX8_init_57 dX8_init_60 (.head _))
 (okN_lift (okInc (.tail _ (.head _)) dX8_init_61 (by decide) (.head _) (by decide))))) dX8_init_64 rfl (.head _)
def nbX8_init_2 : NT :=
 (nSeq (nAO 37 (eF 8 4 (eV 0)) (eV 1) 7 2 mX7_init 6 148)
 (nLift (sInc 1 1)))
set_option maxRecDepth 100000 in
theorem onbX8_init_2 : OkN YX8_init [(0, 2), (1, 0)] [(0, 2), (1, 0)] 74 [69] nbX8_init_2 := by
  unfold nbX8_init_2
  exact okN_end (p1 := 90) (tg := 69) (okN_seq (p1 := 87) (Γ1 := [(0, 2), (1, 0)]) (okN_AO (p0 := 78) (p1 := 79) (κ := 37) (okF (p1 := 75) (k := 4) (ok_aload_n dX8_init_74 (.head _) rfl (.head _)) ci_8 (by decide) kf_X8_25 dX8_init_75 (.head _) rfl rfl) (ok_iload_n dX8_init_78 (.head _) rfl (.tail _ (.head _)) t_0) ⟨⟨_, _, ci_7, by decide +kernel⟩, kl_X8_23, kz_X7, kn_X7, MX7_init, cf_X7_init, kc_X7_init, (.inl km_X8_31), ki_X7_init, rfl, (Nat.le_of_ble_eq_true rfl), (Nat.le_of_ble_eq_true rfl)⟩ (by decide) rfl rfl dX8_init_79 dX8_init_82 dX8_init_83 dX8_init_86 (.head _))
 (okN_lift (okInc (.tail _ (.head _)) dX8_init_87 (by decide) (.head _) (by decide)))) dX8_init_90 rfl (.head _)
def sX8_init : NT :=
 (nSeq nSuper
 (nSeq (nFA 8 2 33 4)
 (nSeq (nFA 8 3 34 4)
 (nSeq (nFA 8 4 37 4)
 (nSeq (nLift (sSet 1 (eI 0)))
 (nSeq (nWh (cB qlt (eV 1) (eI 4)) nbX8_init_1 100)
 (nSeq (nLift (sSet 1 (eI 0)))
 (nWh (cB qlt (eV 1) (eI 4)) nbX8_init_2 100))))))))
set_option maxRecDepth 100000 in
theorem oX8_init : OkN YX8_init [(0, 2)] [(0, 2), (1, 0)] 0 [93] sX8_init := by
  unfold sX8_init
  exact (okN_seq (p1 := 4) (Γ1 := [(0, 2)]) (okN_super (p0 := 1) (ok_aload_n dX8_init_0 (.head _) rfl (.head _)) km_X8_3 (Nat.le_of_ble_eq_true rfl) (Nat.le_of_ble_eq_true rfl) dX8_init_1 (.head _))
 (okN_seq (p1 := 12) (Γ1 := [(0, 2)]) (okN_FR (κ := 33) (p0 := 5) (p1 := 6) (k := 2) (ok_aload_n dX8_init_4 (.head _) rfl (.head _)) (ok_iconst dX8_init_5 (.head _) (irn (by decide) (by decide))) (by decide) (by decide) rfl rfl (List.mem_of_getElem? (i := 3) rfl) kl_X8_9 (by decide) (by decide) dX8_init_6 ci_8 (by decide) kf_X8_11 (.inr rfl) rfl (fun z => qfit_arr _ z) dX8_init_9 (.head _))
 (okN_seq (p1 := 20) (Γ1 := [(0, 2)]) (okN_FR (κ := 34) (p0 := 13) (p1 := 14) (k := 3) (ok_aload_n dX8_init_12 (.head _) rfl (.head _)) (ok_iconst dX8_init_13 (.head _) (irn (by decide) (by decide))) (by decide) (by decide) rfl rfl (List.mem_of_getElem? (i := 4) rfl) kl_X8_17 (by decide) (by decide) dX8_init_14 ci_8 (by decide) kf_X8_19 (.inr rfl) rfl (fun z => qfit_arr _ z) dX8_init_17 (.head _))
 (okN_seq (p1 := 28) (Γ1 := [(0, 2)]) (okN_FR (κ := 37) (p0 := 21) (p1 := 22) (k := 4) (ok_aload_n dX8_init_20 (.head _) rfl (.head _)) (ok_iconst dX8_init_21 (.head _) (irn (by decide) (by decide))) (by decide) (by decide) rfl rfl (List.mem_of_getElem? (i := 5) rfl) kl_X8_23 (by decide) (by decide) dX8_init_22 ci_8 (by decide) kf_X8_25 (.inr rfl) rfl (fun z => qfit_arr _ z) dX8_init_25 (.head _))
 (okN_seq (p1 := 30) (Γ1 := [(0, 2), (1, 0)]) (okN_lift (ok_istore_n (Γ' := [(0, 2), (1, 0)]) (p1 := 29) (τ := 0) (ok_iconst dX8_init_28 (.head _) (irn (by decide) (by decide))) t_0 dX8_init_29 rfl (by decide) (.head _) (by decide)))
 (okN_seq (p1 := 67) (Γ1 := [(0, 2), (1, 0)]) (okN_while (p1 := 35) (okCBf (p1 := 31) (p2 := 32) (τa := 0) (τb := 0) (ok_iload_n dX8_init_30 (.head _) rfl (.tail _ (.head _)) t_0) (ok_iconst dX8_init_31 (.head _) (irn (by decide) (by decide))) (j_icmp_ge dX8_init_32 rfl) nq_lt (.head _) (.head _)) onbX8_init_1 100)
 (okN_seq (p1 := 69) (Γ1 := [(0, 2), (1, 0)]) (okN_lift (ok_istore_n (Γ' := [(0, 2), (1, 0)]) (p1 := 68) (τ := 0) (ok_iconst dX8_init_67 (.head _) (irn (by decide) (by decide))) t_0 dX8_init_68 rfl (by decide) (.head _) (by decide)))
 (okN_while (p1 := 74) (okCBf (p1 := 70) (p2 := 71) (τa := 0) (τb := 0) (ok_iload_n dX8_init_69 (.head _) rfl (.tail _ (.head _)) t_0) (ok_iconst dX8_init_70 (.head _) (irn (by decide) (by decide))) (j_icmp_ge dX8_init_71 rfl) nq_lt (.head _) (.head _)) onbX8_init_2 100))))))))
def mX8_init : NM := nM sX8_init
theorem MX8_init : MetN YX8_init yX8_init 55 1116 mX8_init := metN_of rfl rfl (by decide +kernel) (by decide) dX8_init_93 oX8_init

abbrev YX11_init : YT := (RX11, cX11_init, 2, 4, 74, 9)
theorem cf_X11_init : CF yX11_init 0 := ⟨by decide +kernel, by decide +kernel, by decide +kernel⟩
def nbX11_init_1 : NT :=
 (nSeq (nAO 38 (eF 11 4 (eV 0)) (eV 1) 8 5 mX8_init 55 1116)
 (nLift (sInc 1 1)))
set_option maxRecDepth 100000 in
theorem onbX11_init_1 : OkN YX11_init [(0, 2), (1, 0)] [(0, 2), (1, 0)] 65 [59] nbX11_init_1 := by
  unfold nbX11_init_1
  exact okN_end (p1 := 81) (tg := 59) (okN_seq (p1 := 78) (Γ1 := [(0, 2), (1, 0)]) (okN_AO (p0 := 69) (p1 := 70) (κ := 38) (okF (p1 := 66) (k := 4) (ok_aload_n dX11_init_65 (.head _) rfl (.head _)) ci_11 (by decide) kf_X11_35 dX11_init_66 (.head _) rfl rfl) (ok_iload_n dX11_init_69 (.head _) rfl (.tail _ (.head _)) t_0) ⟨⟨_, _, ci_8, by decide +kernel⟩, kl_X11_33, kz_X8, kn_X8, MX8_init, cf_X8_init, kc_X8_init, (.inl km_X11_39), ki_X8_init, rfl, (Nat.le_of_ble_eq_true rfl), (Nat.le_of_ble_eq_true rfl)⟩ (by decide) rfl rfl dX11_init_70 dX11_init_73 dX11_init_74 dX11_init_77 (.head _))
 (okN_lift (okInc (.tail _ (.head _)) dX11_init_78 (by decide) (.head _) (by decide)))) dX11_init_81 rfl (.head _)
def nbX11_init_2 : NT :=
 (nSeq (nAO 38 (eF 11 8 (eV 0)) (eV 1) 8 5 mX8_init 55 1116)
 (nLift (sInc 1 1)))
set_option maxRecDepth 100000 in
theorem onbX11_init_2 : OkN YX11_init [(0, 2), (1, 0)] [(0, 2), (1, 0)] 99 [94] nbX11_init_2 := by
  unfold nbX11_init_2
  exact okN_end (p1 := 115) (tg := 94) (okN_seq (p1 := 112) (Γ1 := [(0, 2), (1, 0)]) (okN_AO (p0 := 103) (p1 := 104) (κ := 38) (okF (p1 := 100) (k := 8) (ok_aload_n dX11_init_99 (.head _) rfl (.head _)) ci_11 (by decide) kf_X11_40 dX11_init_100 (.head _) rfl rfl) (ok_iload_n dX11_init_103 (.head _) rfl (.tail _ (.head _)) t_0) ⟨⟨_, _, ci_8, by decide +kernel⟩, kl_X11_33, kz_X8, kn_X8, MX8_init, cf_X8_init, kc_X8_init, (.inl km_X11_39), ki_X8_init, rfl, (Nat.le_of_ble_eq_true rfl), (Nat.le_of_ble_eq_true rfl)⟩ (by decide) rfl rfl dX11_init_104 dX11_init_107 dX11_init_108 dX11_init_111 (.head _))
 (okN_lift (okInc (.tail _ (.head _)) dX11_init_112 (by decide) (.head _) (by decide)))) dX11_init_115 rfl (.head _)
def sX11_init : NT :=
 (nSeq nSuper
 (nSeq (nFO 11 0 10 6 mX10_init 4 4003)
 (nSeq (nFO 11 1 5 10 mX5_init 3 76)
 (nSeq (nFO 11 2 6 6 mX6_init 16 235)
 (nSeq (nFO 11 3 6 6 mX6_init 16 235)
 (nSeq (nFA 11 4 38 13)
 (nSeq (nLift (sSet 1 (eI 0)))
 (nSeq (nWh (cB qlt (eV 1) (eI 13)) nbX11_init_1 100)
 (nSeq (nFA 11 8 38 2)
 (nSeq (nLift (sSet 1 (eI 0)))
 (nSeq (nWh (cB qlt (eV 1) (eI 2)) nbX11_init_2 100)
 (nSeq (nFA 11 9 24 2)
 (nSeq (nLift (sPut 11 11 (eV 0) (eI (-1))))
 (nSeq (nFA 11 12 20 4)
 (nFO 11 13 9 6 mX9_init 0 0)))))))))))))))
set_option maxRecDepth 100000 in
theorem oX11_init : OkN YX11_init [(0, 2)] [(0, 2), (1, 0)] 0 [148] sX11_init := by
  unfold sX11_init
  exact (okN_seq (p1 := 4) (Γ1 := [(0, 2)]) (okN_super (p0 := 1) (ok_aload_n dX11_init_0 (.head _) rfl (.head _)) km_X11_3 (Nat.le_of_ble_eq_true rfl) (Nat.le_of_ble_eq_true rfl) dX11_init_1 (.head _))
 (okN_seq (p1 := 15) (Γ1 := [(0, 2)]) (okN_FO (p0 := 5) (k := 0) (ok_aload_n dX11_init_4 (.head _) rfl (.head _)) ⟨⟨_, _, ci_10, by decide +kernel⟩, kl_X11_9, kz_X10, kn_X10, MX10_init, cf_X10_init, kc_X10_init, (.inr ⟨_, List.mem_of_getElem? (i := 0) rfl⟩), ki_X10_init, rfl, (Nat.le_of_ble_eq_true rfl), (Nat.le_of_ble_eq_true rfl)⟩ dX11_init_5 dX11_init_8 dX11_init_9 ci_11 (by decide) kf_X11_12 (.inr rfl) rfl (fun z => qfit_obj _ z) dX11_init_12 (.head _))
 (okN_seq (p1 := 26) (Γ1 := [(0, 2)]) (okN_FO (p0 := 16) (k := 1) (ok_aload_n dX11_init_15 (.head _) rfl (.head _)) ⟨⟨_, _, ci_5, by decide +kernel⟩, kl_X11_16, kz_X5, kn_X5, MX5_init, cf_X5_init, kc_X5_init, (.inr ⟨_, List.mem_of_getElem? (i := 1) rfl⟩), ki_X5_init, rfl, (Nat.le_of_ble_eq_true rfl), (Nat.le_of_ble_eq_true rfl)⟩ dX11_init_16 dX11_init_19 dX11_init_20 ci_11 (by decide) kf_X11_19 (.inr rfl) rfl (fun z => qfit_obj _ z) dX11_init_23 (.head _))
 (okN_seq (p1 := 37) (Γ1 := [(0, 2)]) (okN_FO (p0 := 27) (k := 2) (ok_aload_n dX11_init_26 (.head _) rfl (.head _)) ⟨⟨_, _, ci_6, by decide +kernel⟩, kl_X11_23, kz_X6, kn_X6, MX6_init, cf_X6_init, kc_X6_init, (.inl km_X11_25), ki_X6_init, rfl, (Nat.le_of_ble_eq_true rfl), (Nat.le_of_ble_eq_true rfl)⟩ dX11_init_27 dX11_init_30 dX11_init_31 ci_11 (by decide) kf_X11_26 (.inl rfl) rfl (fun z => qfit_obj _ z) dX11_init_34 (.head _))
 (okN_seq (p1 := 48) (Γ1 := [(0, 2)]) (okN_FO (p0 := 38) (k := 3) (ok_aload_n dX11_init_37 (.head _) rfl (.head _)) ⟨⟨_, _, ci_6, by decide +kernel⟩, kl_X11_23, kz_X6, kn_X6, MX6_init, cf_X6_init, kc_X6_init, (.inl km_X11_25), ki_X6_init, rfl, (Nat.le_of_ble_eq_true rfl), (Nat.le_of_ble_eq_true rfl)⟩ dX11_init_38 dX11_init_41 dX11_init_42 ci_11 (by decide) kf_X11_30 (.inl rfl) rfl (fun z => qfit_obj _ z) dX11_init_45 (.head _))
 (okN_seq (p1 := 57) (Γ1 := [(0, 2)]) (okN_FR (κ := 38) (p0 := 49) (p1 := 51) (k := 4) (ok_aload_n dX11_init_48 (.head _) rfl (.head _)) (ok_bipush dX11_init_49 (.head _) (irn4 (by decide) (by decide))) (by decide) (by decide) rfl rfl (List.mem_of_getElem? (i := 2) rfl) kl_X11_33 (by decide) (by decide) dX11_init_51 ci_11 (by decide) kf_X11_35 (.inr rfl) rfl (fun z => qfit_arr _ z) dX11_init_54 (.head _))
 (okN_seq (p1 := 59) (Γ1 := [(0, 2), (1, 0)]) (okN_lift (ok_istore_n (Γ' := [(0, 2), (1, 0)]) (p1 := 58) (τ := 0) (ok_iconst dX11_init_57 (.head _) (irn (by decide) (by decide))) t_0 dX11_init_58 rfl (by decide) (.head _) (by decide)))
 (okN_seq (p1 := 84) (Γ1 := [(0, 2), (1, 0)]) (okN_while (p1 := 65) (okCBf (p1 := 60) (p2 := 62) (τa := 0) (τb := 0) (ok_iload_n dX11_init_59 (.head _) rfl (.tail _ (.head _)) t_0) (ok_bipush dX11_init_60 (.head _) (irn4 (by decide) (by decide))) (j_icmp_ge dX11_init_62 rfl) nq_lt (.head _) (.head _)) onbX11_init_1 100)
 (okN_seq (p1 := 92) (Γ1 := [(0, 2), (1, 0)]) (okN_FR (κ := 38) (p0 := 85) (p1 := 86) (k := 8) (ok_aload_n dX11_init_84 (.head _) rfl (.head _)) (ok_iconst dX11_init_85 (.head _) (irn (by decide) (by decide))) (by decide) (by decide) rfl rfl (List.mem_of_getElem? (i := 2) rfl) kl_X11_33 (by decide) (by decide) dX11_init_86 ci_11 (by decide) kf_X11_40 (.inr rfl) rfl (fun z => qfit_arr _ z) dX11_init_89 (.head _))
 (okN_seq (p1 := 94) (Γ1 := [(0, 2), (1, 0)]) (okN_lift (ok_istore_n (Γ' := [(0, 2), (1, 0)]) (p1 := 93) (τ := 0) (ok_iconst dX11_init_92 (.head _) (irn (by decide) (by decide))) t_0 dX11_init_93 rfl (by decide) (.head _) (by decide)))
 (okN_seq (p1 := 118) (Γ1 := [(0, 2), (1, 0)]) (okN_while (p1 := 99) (okCBf (p1 := 95) (p2 := 96) (τa := 0) (τb := 0) (ok_iload_n dX11_init_94 (.head _) rfl (.tail _ (.head _)) t_0) (ok_iconst dX11_init_95 (.head _) (irn (by decide) (by decide))) (j_icmp_ge dX11_init_96 rfl) nq_lt (.head _) (.head _)) onbX11_init_2 100)
 (okN_seq (p1 := 125) (Γ1 := [(0, 2), (1, 0)]) (okN_FA (p0 := 119) (p1 := 120) (k := 9) (ok_aload_n dX11_init_118 (.head _) rfl (.head _)) (ok_iconst dX11_init_119 (.head _) (irn (by decide) (by decide))) ak_24 ka_arrayClass_2_128 (by decide) (by decide) (Nat.le_of_ble_eq_true rfl) dX11_init_120 ci_11 (by decide) kf_X11_43 (.inr rfl) rfl (fun z => qfit_arr _ z) dX11_init_122 (.head _))
 (okN_seq (p1 := 130) (Γ1 := [(0, 2), (1, 0)]) (okN_lift (okPut (p1 := 126) (p2 := 127) (k := 11) (ok_aload_n dX11_init_125 (.head _) rfl (.head _)) (ok_iconst dX11_init_126 (.head _) (irn (by decide) (by decide))) rfl ci_11 (by decide) kf_X11_47 rfl (fun z _ => qfit_int z) dX11_init_127 (.head _) rfl))
 (okN_seq (p1 := 137) (Γ1 := [(0, 2), (1, 0)]) (okN_FA (p0 := 131) (p1 := 132) (k := 12) (ok_aload_n dX11_init_130 (.head _) rfl (.head _)) (ok_iconst dX11_init_131 (.head _) (irn (by decide) (by decide))) ak_20 ka_arrayClass_1_59 (by decide) (by decide) (Nat.le_of_ble_eq_true rfl) dX11_init_132 ci_11 (by decide) kf_X11_51 (.inr rfl) rfl (fun z => qfit_arr _ z) dX11_init_134 (.head _))
 (okN_FO (p0 := 138) (k := 13) (ok_aload_n dX11_init_137 (.head _) rfl (.head _)) ⟨⟨_, _, ci_9, by decide +kernel⟩, kl_X11_55, kz_X9, kn_X9, MX9_init, cf_X9_init, kc_X9_init, (.inr ⟨_, List.mem_of_getElem? (i := 8) rfl⟩), ki_X9_init, rfl, (Nat.le_of_ble_eq_true rfl), (Nat.le_of_ble_eq_true rfl)⟩ dX11_init_138 dX11_init_141 dX11_init_142 ci_11 (by decide) kf_X11_58 (.inr rfl) rfl (fun z => qfit_obj _ z) dX11_init_145 (.head _))))))))))))))))
def mX11_init : NM := nM sX11_init
theorem MX11_init : MetN YX11_init yX11_init 888 21419 mX11_init := metN_of rfl rfl (by decide +kernel) (by decide) dX11_init_148 oX11_init

abbrev YX12_init : YT := (RX12, cX12_init, 1, 2, 43, 9)
theorem cf_X12_init : CF yX12_init 0 := ⟨by decide +kernel, by decide +kernel, by decide +kernel⟩
theorem lt_0 {Z : ZT} (hC : MC YX12_init Z) {L : QL} {N : QN} {a b : Int} (hx : N.1.1 a = 42) (h1 : N.1.2.1 a = 111) (hk : WXN Z YX12_init.2.2.1 [(0, 2)] L (N.1, nB a 0 [115, 116, 101, 112, 32, 109, 101, 97, 115, 117] N.2.1, N.2.2) 289 [vo 2 a, vo 2 b]) : WXN Z YX12_init.2.2.1 [(0, 2)] L N 235 [vo 2 a, vo 2 b] := by
  refine wn_bst (i := 0) (z := 115) (p1 := 237) (p2 := 239) dX12_init_235 (ok_iconst dX12_init_236 (.head _) (irn (by decide) (by decide))) (ok_bipush dX12_init_237 (.head _) (irn4 (by decide) (by decide))) dX12_init_239 (by decide) (irn (by decide) (by decide)) rfl (irn (by decide) (by decide)) hC hx (by show (0 : Int) < N.1.2.1 a; rw [h1]; decide) ?_
  refine wn_bst (i := 1) (z := 116) (p1 := 242) (p2 := 244) dX12_init_240 (ok_iconst dX12_init_241 (.head _) (irn (by decide) (by decide))) (ok_bipush dX12_init_242 (.head _) (irn4 (by decide) (by decide))) dX12_init_244 (by decide) (irn (by decide) (by decide)) rfl (irn (by decide) (by decide)) hC hx (by show (1 : Int) < N.1.2.1 a; rw [h1]; decide) ?_
  refine wn_bst (i := 2) (z := 101) (p1 := 247) (p2 := 249) dX12_init_245 (ok_iconst dX12_init_246 (.head _) (irn (by decide) (by decide))) (ok_bipush dX12_init_247 (.head _) (irn4 (by decide) (by decide))) dX12_init_249 (by decide) (irn (by decide) (by decide)) rfl (irn (by decide) (by decide)) hC hx (by show (2 : Int) < N.1.2.1 a; rw [h1]; decide) ?_
  refine wn_bst (i := 3) (z := 112) (p1 := 252) (p2 := 254) dX12_init_250 (ok_iconst dX12_init_251 (.head _) (irn (by decide) (by decide))) (ok_bipush dX12_init_252 (.head _) (irn4 (by decide) (by decide))) dX12_init_254 (by decide) (irn (by decide) (by decide)) rfl (irn (by decide) (by decide)) hC hx (by show (3 : Int) < N.1.2.1 a; rw [h1]; decide) ?_
  refine wn_bst (i := 4) (z := 32) (p1 := 257) (p2 := 259) dX12_init_255 (ok_iconst dX12_init_256 (.head _) (irn (by decide) (by decide))) (ok_bipush dX12_init_257 (.head _) (irn4 (by decide) (by decide))) dX12_init_259 (by decide) (irn (by decide) (by decide)) rfl (irn (by decide) (by decide)) hC hx (by show (4 : Int) < N.1.2.1 a; rw [h1]; decide) ?_
  refine wn_bst (i := 5) (z := 109) (p1 := 262) (p2 := 264) dX12_init_260 (ok_iconst dX12_init_261 (.head _) (irn (by decide) (by decide))) (ok_bipush dX12_init_262 (.head _) (irn4 (by decide) (by decide))) dX12_init_264 (by decide) (irn (by decide) (by decide)) rfl (irn (by decide) (by decide)) hC hx (by show (5 : Int) < N.1.2.1 a; rw [h1]; decide) ?_
  refine wn_bst (i := 6) (z := 101) (p1 := 268) (p2 := 270) dX12_init_265 (ok_bipush dX12_init_266 (.head _) (irn4 (by decide) (by decide))) (ok_bipush dX12_init_268 (.head _) (irn4 (by decide) (by decide))) dX12_init_270 (by decide) (irn (by decide) (by decide)) rfl (irn (by decide) (by decide)) hC hx (by show (6 : Int) < N.1.2.1 a; rw [h1]; decide) ?_
  refine wn_bst (i := 7) (z := 97) (p1 := 274) (p2 := 276) dX12_init_271 (ok_bipush dX12_init_272 (.head _) (irn4 (by decide) (by decide))) (ok_bipush dX12_init_274 (.head _) (irn4 (by decide) (by decide))) dX12_init_276 (by decide) (irn (by decide) (by decide)) rfl (irn (by decide) (by decide)) hC hx (by show (7 : Int) < N.1.2.1 a; rw [h1]; decide) ?_
  refine wn_bst (i := 8) (z := 115) (p1 := 280) (p2 := 282) dX12_init_277 (ok_bipush dX12_init_278 (.head _) (irn4 (by decide) (by decide))) (ok_bipush dX12_init_280 (.head _) (irn4 (by decide) (by decide))) dX12_init_282 (by decide) (irn (by decide) (by decide)) rfl (irn (by decide) (by decide)) hC hx (by show (8 : Int) < N.1.2.1 a; rw [h1]; decide) ?_
  refine wn_bst (i := 9) (z := 117) (p1 := 286) (p2 := 288) dX12_init_283 (ok_bipush dX12_init_284 (.head _) (irn4 (by decide) (by decide))) (ok_bipush dX12_init_286 (.head _) (irn4 (by decide) (by decide))) dX12_init_288 (by decide) (irn (by decide) (by decide)) rfl (irn (by decide) (by decide)) hC hx (by show (9 : Int) < N.1.2.1 a; rw [h1]; decide) ?_
  exact hk
theorem lt_1 {Z : ZT} (hC : MC YX12_init Z) {L : QL} {N : QN} {a b : Int} (hx : N.1.1 a = 42) (h1 : N.1.2.1 a = 111) (hk : WXN Z YX12_init.2.2.1 [(0, 2)] L (N.1, nB a 10 [114, 101, 32, 115, 105, 108, 101, 110, 99, 101] N.2.1, N.2.2) 349 [vo 2 a, vo 2 b]) : WXN Z YX12_init.2.2.1 [(0, 2)] L N 289 [vo 2 a, vo 2 b] := by
  refine wn_bst (i := 10) (z := 114) (p1 := 292) (p2 := 294) dX12_init_289 (ok_bipush dX12_init_290 (.head _) (irn4 (by decide) (by decide))) (ok_bipush dX12_init_292 (.head _) (irn4 (by decide) (by decide))) dX12_init_294 (by decide) (irn (by decide) (by decide)) rfl (irn (by decide) (by decide)) hC hx (by show (10 : Int) < N.1.2.1 a; rw [h1]; decide) ?_
  refine wn_bst (i := 11) (z := 101) (p1 := 298) (p2 := 300) dX12_init_295 (ok_bipush dX12_init_296 (.head _) (irn4 (by decide) (by decide))) (ok_bipush dX12_init_298 (.head _) (irn4 (by decide) (by decide))) dX12_init_300 (by decide) (irn (by decide) (by decide)) rfl (irn (by decide) (by decide)) hC hx (by show (11 : Int) < N.1.2.1 a; rw [h1]; decide) ?_
  refine wn_bst (i := 12) (z := 32) (p1 := 304) (p2 := 306) dX12_init_301 (ok_bipush dX12_init_302 (.head _) (irn4 (by decide) (by decide))) (ok_bipush dX12_init_304 (.head _) (irn4 (by decide) (by decide))) dX12_init_306 (by decide) (irn (by decide) (by decide)) rfl (irn (by decide) (by decide)) hC hx (by show (12 : Int) < N.1.2.1 a; rw [h1]; decide) ?_
  refine wn_bst (i := 13) (z := 115) (p1 := 310) (p2 := 312) dX12_init_307 (ok_bipush dX12_init_308 (.head _) (irn4 (by decide) (by decide))) (ok_bipush dX12_init_310 (.head _) (irn4 (by decide) (by decide))) dX12_init_312 (by decide) (irn (by decide) (by decide)) rfl (irn (by decide) (by decide)) hC hx (by show (13 : Int) < N.1.2.1 a; rw [h1]; decide) ?_
  refine wn_bst (i := 14) (z := 105) (p1 := 316) (p2 := 318) dX12_init_313 (ok_bipush dX12_init_314 (.head _) (irn4 (by decide) (by decide))) (ok_bipush dX12_init_316 (.head _) (irn4 (by decide) (by decide))) dX12_init_318 (by decide) (irn (by decide) (by decide)) rfl (irn (by decide) (by decide)) hC hx (by show (14 : Int) < N.1.2.1 a; rw [h1]; decide) ?_
  refine wn_bst (i := 15) (z := 108) (p1 := 322) (p2 := 324) dX12_init_319 (ok_bipush dX12_init_320 (.head _) (irn4 (by decide) (by decide))) (ok_bipush dX12_init_322 (.head _) (irn4 (by decide) (by decide))) dX12_init_324 (by decide) (irn (by decide) (by decide)) rfl (irn (by decide) (by decide)) hC hx (by show (15 : Int) < N.1.2.1 a; rw [h1]; decide) ?_
  refine wn_bst (i := 16) (z := 101) (p1 := 328) (p2 := 330) dX12_init_325 (ok_bipush dX12_init_326 (.head _) (irn4 (by decide) (by decide))) (ok_bipush dX12_init_328 (.head _) (irn4 (by decide) (by decide))) dX12_init_330 (by decide) (irn (by decide) (by decide)) rfl (irn (by decide) (by decide)) hC hx (by show (16 : Int) < N.1.2.1 a; rw [h1]; decide) ?_
  refine wn_bst (i := 17) (z := 110) (p1 := 334) (p2 := 336) dX12_init_331 (ok_bipush dX12_init_332 (.head _) (irn4 (by decide) (by decide))) (ok_bipush dX12_init_334 (.head _) (irn4 (by decide) (by decide))) dX12_init_336 (by decide) (irn (by decide) (by decide)) rfl (irn (by decide) (by decide)) hC hx (by show (17 : Int) < N.1.2.1 a; rw [h1]; decide) ?_
  refine wn_bst (i := 18) (z := 99) (p1 := 340) (p2 := 342) dX12_init_337 (ok_bipush dX12_init_338 (.head _) (irn4 (by decide) (by decide))) (ok_bipush dX12_init_340 (.head _) (irn4 (by decide) (by decide))) dX12_init_342 (by decide) (irn (by decide) (by decide)) rfl (irn (by decide) (by decide)) hC hx (by show (18 : Int) < N.1.2.1 a; rw [h1]; decide) ?_
  refine wn_bst (i := 19) (z := 101) (p1 := 346) (p2 := 348) dX12_init_343 (ok_bipush dX12_init_344 (.head _) (irn4 (by decide) (by decide))) (ok_bipush dX12_init_346 (.head _) (irn4 (by decide) (by decide))) dX12_init_348 (by decide) (irn (by decide) (by decide)) rfl (irn (by decide) (by decide)) hC hx (by show (19 : Int) < N.1.2.1 a; rw [h1]; decide) ?_
  exact hk
theorem lt_2 {Z : ZT} (hC : MC YX12_init Z) {L : QL} {N : QN} {a b : Int} (hx : N.1.1 a = 42) (h1 : N.1.2.1 a = 111) (hk : WXN Z YX12_init.2.2.1 [(0, 2)] L (N.1, nB a 20 [32, 108, 101, 97, 115, 116, 32, 109, 111, 115] N.2.1, N.2.2) 409 [vo 2 a, vo 2 b]) : WXN Z YX12_init.2.2.1 [(0, 2)] L N 349 [vo 2 a, vo 2 b] := by
  refine wn_bst (i := 20) (z := 32) (p1 := 352) (p2 := 354) dX12_init_349 (ok_bipush dX12_init_350 (.head _) (irn4 (by decide) (by decide))) (ok_bipush dX12_init_352 (.head _) (irn4 (by decide) (by decide))) dX12_init_354 (by decide) (irn (by decide) (by decide)) rfl (irn (by decide) (by decide)) hC hx (by show (20 : Int) < N.1.2.1 a; rw [h1]; decide) ?_
  refine wn_bst (i := 21) (z := 108) (p1 := 358) (p2 := 360) dX12_init_355 (ok_bipush dX12_init_356 (.head _) (irn4 (by decide) (by decide))) (ok_bipush dX12_init_358 (.head _) (irn4 (by decide) (by decide))) dX12_init_360 (by decide) (irn (by decide) (by decide)) rfl (irn (by decide) (by decide)) hC hx (by show (21 : Int) < N.1.2.1 a; rw [h1]; decide) ?_
  refine wn_bst (i := 22) (z := 101) (p1 := 364) (p2 := 366) dX12_init_361 (ok_bipush dX12_init_362 (.head _) (irn4 (by decide) (by decide))) (ok_bipush dX12_init_364 (.head _) (irn4 (by decide) (by decide))) dX12_init_366 (by decide) (irn (by decide) (by decide)) rfl (irn (by decide) (by decide)) hC hx (by show (22 : Int) < N.1.2.1 a; rw [h1]; decide) ?_
  refine wn_bst (i := 23) (z := 97) (p1 := 370) (p2 := 372) dX12_init_367 (ok_bipush dX12_init_368 (.head _) (irn4 (by decide) (by decide))) (ok_bipush dX12_init_370 (.head _) (irn4 (by decide) (by decide))) dX12_init_372 (by decide) (irn (by decide) (by decide)) rfl (irn (by decide) (by decide)) hC hx (by show (23 : Int) < N.1.2.1 a; rw [h1]; decide) ?_
  refine wn_bst (i := 24) (z := 115) (p1 := 376) (p2 := 378) dX12_init_373 (ok_bipush dX12_init_374 (.head _) (irn4 (by decide) (by decide))) (ok_bipush dX12_init_376 (.head _) (irn4 (by decide) (by decide))) dX12_init_378 (by decide) (irn (by decide) (by decide)) rfl (irn (by decide) (by decide)) hC hx (by show (24 : Int) < N.1.2.1 a; rw [h1]; decide) ?_
  refine wn_bst (i := 25) (z := 116) (p1 := 382) (p2 := 384) dX12_init_379 (ok_bipush dX12_init_380 (.head _) (irn4 (by decide) (by decide))) (ok_bipush dX12_init_382 (.head _) (irn4 (by decide) (by decide))) dX12_init_384 (by decide) (irn (by decide) (by decide)) rfl (irn (by decide) (by decide)) hC hx (by show (25 : Int) < N.1.2.1 a; rw [h1]; decide) ?_
  refine wn_bst (i := 26) (z := 32) (p1 := 388) (p2 := 390) dX12_init_385 (ok_bipush dX12_init_386 (.head _) (irn4 (by decide) (by decide))) (ok_bipush dX12_init_388 (.head _) (irn4 (by decide) (by decide))) dX12_init_390 (by decide) (irn (by decide) (by decide)) rfl (irn (by decide) (by decide)) hC hx (by show (26 : Int) < N.1.2.1 a; rw [h1]; decide) ?_
  refine wn_bst (i := 27) (z := 109) (p1 := 394) (p2 := 396) dX12_init_391 (ok_bipush dX12_init_392 (.head _) (irn4 (by decide) (by decide))) (ok_bipush dX12_init_394 (.head _) (irn4 (by decide) (by decide))) dX12_init_396 (by decide) (irn (by decide) (by decide)) rfl (irn (by decide) (by decide)) hC hx (by show (27 : Int) < N.1.2.1 a; rw [h1]; decide) ?_
  refine wn_bst (i := 28) (z := 111) (p1 := 400) (p2 := 402) dX12_init_397 (ok_bipush dX12_init_398 (.head _) (irn4 (by decide) (by decide))) (ok_bipush dX12_init_400 (.head _) (irn4 (by decide) (by decide))) dX12_init_402 (by decide) (irn (by decide) (by decide)) rfl (irn (by decide) (by decide)) hC hx (by show (28 : Int) < N.1.2.1 a; rw [h1]; decide) ?_
  refine wn_bst (i := 29) (z := 115) (p1 := 406) (p2 := 408) dX12_init_403 (ok_bipush dX12_init_404 (.head _) (irn4 (by decide) (by decide))) (ok_bipush dX12_init_406 (.head _) (irn4 (by decide) (by decide))) dX12_init_408 (by decide) (irn (by decide) (by decide)) rfl (irn (by decide) (by decide)) hC hx (by show (29 : Int) < N.1.2.1 a; rw [h1]; decide) ?_
  exact hk
theorem lt_3 {Z : ZT} (hC : MC YX12_init Z) {L : QL} {N : QN} {a b : Int} (hx : N.1.1 a = 42) (h1 : N.1.2.1 a = 111) (hk : WXN Z YX12_init.2.2.1 [(0, 2)] L (N.1, nB a 30 [116, 32, 97, 114, 99, 104, 105, 118, 101, 32] N.2.1, N.2.2) 469 [vo 2 a, vo 2 b]) : WXN Z YX12_init.2.2.1 [(0, 2)] L N 409 [vo 2 a, vo 2 b] := by
  refine wn_bst (i := 30) (z := 116) (p1 := 412) (p2 := 414) dX12_init_409 (ok_bipush dX12_init_410 (.head _) (irn4 (by decide) (by decide))) (ok_bipush dX12_init_412 (.head _) (irn4 (by decide) (by decide))) dX12_init_414 (by decide) (irn (by decide) (by decide)) rfl (irn (by decide) (by decide)) hC hx (by show (30 : Int) < N.1.2.1 a; rw [h1]; decide) ?_
  refine wn_bst (i := 31) (z := 32) (p1 := 418) (p2 := 420) dX12_init_415 (ok_bipush dX12_init_416 (.head _) (irn4 (by decide) (by decide))) (ok_bipush dX12_init_418 (.head _) (irn4 (by decide) (by decide))) dX12_init_420 (by decide) (irn (by decide) (by decide)) rfl (irn (by decide) (by decide)) hC hx (by show (31 : Int) < N.1.2.1 a; rw [h1]; decide) ?_
  refine wn_bst (i := 32) (z := 97) (p1 := 424) (p2 := 426) dX12_init_421 (ok_bipush dX12_init_422 (.head _) (irn4 (by decide) (by decide))) (ok_bipush dX12_init_424 (.head _) (irn4 (by decide) (by decide))) dX12_init_426 (by decide) (irn (by decide) (by decide)) rfl (irn (by decide) (by decide)) hC hx (by show (32 : Int) < N.1.2.1 a; rw [h1]; decide) ?_
  refine wn_bst (i := 33) (z := 114) (p1 := 430) (p2 := 432) dX12_init_427 (ok_bipush dX12_init_428 (.head _) (irn4 (by decide) (by decide))) (ok_bipush dX12_init_430 (.head _) (irn4 (by decide) (by decide))) dX12_init_432 (by decide) (irn (by decide) (by decide)) rfl (irn (by decide) (by decide)) hC hx (by show (33 : Int) < N.1.2.1 a; rw [h1]; decide) ?_
  refine wn_bst (i := 34) (z := 99) (p1 := 436) (p2 := 438) dX12_init_433 (ok_bipush dX12_init_434 (.head _) (irn4 (by decide) (by decide))) (ok_bipush dX12_init_436 (.head _) (irn4 (by decide) (by decide))) dX12_init_438 (by decide) (irn (by decide) (by decide)) rfl (irn (by decide) (by decide)) hC hx (by show (34 : Int) < N.1.2.1 a; rw [h1]; decide) ?_
  refine wn_bst (i := 35) (z := 104) (p1 := 442) (p2 := 444) dX12_init_439 (ok_bipush dX12_init_440 (.head _) (irn4 (by decide) (by decide))) (ok_bipush dX12_init_442 (.head _) (irn4 (by decide) (by decide))) dX12_init_444 (by decide) (irn (by decide) (by decide)) rfl (irn (by decide) (by decide)) hC hx (by show (35 : Int) < N.1.2.1 a; rw [h1]; decide) ?_
  refine wn_bst (i := 36) (z := 105) (p1 := 448) (p2 := 450) dX12_init_445 (ok_bipush dX12_init_446 (.head _) (irn4 (by decide) (by decide))) (ok_bipush dX12_init_448 (.head _) (irn4 (by decide) (by decide))) dX12_init_450 (by decide) (irn (by decide) (by decide)) rfl (irn (by decide) (by decide)) hC hx (by show (36 : Int) < N.1.2.1 a; rw [h1]; decide) ?_
  refine wn_bst (i := 37) (z := 118) (p1 := 454) (p2 := 456) dX12_init_451 (ok_bipush dX12_init_452 (.head _) (irn4 (by decide) (by decide))) (ok_bipush dX12_init_454 (.head _) (irn4 (by decide) (by decide))) dX12_init_456 (by decide) (irn (by decide) (by decide)) rfl (irn (by decide) (by decide)) hC hx (by show (37 : Int) < N.1.2.1 a; rw [h1]; decide) ?_
  refine wn_bst (i := 38) (z := 101) (p1 := 460) (p2 := 462) dX12_init_457 (ok_bipush dX12_init_458 (.head _) (irn4 (by decide) (by decide))) (ok_bipush dX12_init_460 (.head _) (irn4 (by decide) (by decide))) dX12_init_462 (by decide) (irn (by decide) (by decide)) rfl (irn (by decide) (by decide)) hC hx (by show (38 : Int) < N.1.2.1 a; rw [h1]; decide) ?_
  refine wn_bst (i := 39) (z := 32) (p1 := 466) (p2 := 468) dX12_init_463 (ok_bipush dX12_init_464 (.head _) (irn4 (by decide) (by decide))) (ok_bipush dX12_init_466 (.head _) (irn4 (by decide) (by decide))) dX12_init_468 (by decide) (irn (by decide) (by decide)) rfl (irn (by decide) (by decide)) hC hx (by show (39 : Int) < N.1.2.1 a; rw [h1]; decide) ?_
  exact hk
theorem lt_4 {Z : ZT} (hC : MC YX12_init Z) {L : QL} {N : QN} {a b : Int} (hx : N.1.1 a = 42) (h1 : N.1.2.1 a = 111) (hk : WXN Z YX12_init.2.2.1 [(0, 2)] L (N.1, nB a 40 [98, 121, 32, 115, 104, 97, 114, 101, 32, 102] N.2.1, N.2.2) 529 [vo 2 a, vo 2 b]) : WXN Z YX12_init.2.2.1 [(0, 2)] L N 469 [vo 2 a, vo 2 b] := by
  refine wn_bst (i := 40) (z := 98) (p1 := 472) (p2 := 474) dX12_init_469 (ok_bipush dX12_init_470 (.head _) (irn4 (by decide) (by decide))) (ok_bipush dX12_init_472 (.head _) (irn4 (by decide) (by decide))) dX12_init_474 (by decide) (irn (by decide) (by decide)) rfl (irn (by decide) (by decide)) hC hx (by show (40 : Int) < N.1.2.1 a; rw [h1]; decide) ?_
  refine wn_bst (i := 41) (z := 121) (p1 := 478) (p2 := 480) dX12_init_475 (ok_bipush dX12_init_476 (.head _) (irn4 (by decide) (by decide))) (ok_bipush dX12_init_478 (.head _) (irn4 (by decide) (by decide))) dX12_init_480 (by decide) (irn (by decide) (by decide)) rfl (irn (by decide) (by decide)) hC hx (by show (41 : Int) < N.1.2.1 a; rw [h1]; decide) ?_
  refine wn_bst (i := 42) (z := 32) (p1 := 484) (p2 := 486) dX12_init_481 (ok_bipush dX12_init_482 (.head _) (irn4 (by decide) (by decide))) (ok_bipush dX12_init_484 (.head _) (irn4 (by decide) (by decide))) dX12_init_486 (by decide) (irn (by decide) (by decide)) rfl (irn (by decide) (by decide)) hC hx (by show (42 : Int) < N.1.2.1 a; rw [h1]; decide) ?_
  refine wn_bst (i := 43) (z := 115) (p1 := 490) (p2 := 492) dX12_init_487 (ok_bipush dX12_init_488 (.head _) (irn4 (by decide) (by decide))) (ok_bipush dX12_init_490 (.head _) (irn4 (by decide) (by decide))) dX12_init_492 (by decide) (irn (by decide) (by decide)) rfl (irn (by decide) (by decide)) hC hx (by show (43 : Int) < N.1.2.1 a; rw [h1]; decide) ?_
  refine wn_bst (i := 44) (z := 104) (p1 := 496) (p2 := 498) dX12_init_493 (ok_bipush dX12_init_494 (.head _) (irn4 (by decide) (by decide))) (ok_bipush dX12_init_496 (.head _) (irn4 (by decide) (by decide))) dX12_init_498 (by decide) (irn (by decide) (by decide)) rfl (irn (by decide) (by decide)) hC hx (by show (44 : Int) < N.1.2.1 a; rw [h1]; decide) ?_
  refine wn_bst (i := 45) (z := 97) (p1 := 502) (p2 := 504) dX12_init_499 (ok_bipush dX12_init_500 (.head _) (irn4 (by decide) (by decide))) (ok_bipush dX12_init_502 (.head _) (irn4 (by decide) (by decide))) dX12_init_504 (by decide) (irn (by decide) (by decide)) rfl (irn (by decide) (by decide)) hC hx (by show (45 : Int) < N.1.2.1 a; rw [h1]; decide) ?_
  refine wn_bst (i := 46) (z := 114) (p1 := 508) (p2 := 510) dX12_init_505 (ok_bipush dX12_init_506 (.head _) (irn4 (by decide) (by decide))) (ok_bipush dX12_init_508 (.head _) (irn4 (by decide) (by decide))) dX12_init_510 (by decide) (irn (by decide) (by decide)) rfl (irn (by decide) (by decide)) hC hx (by show (46 : Int) < N.1.2.1 a; rw [h1]; decide) ?_
  refine wn_bst (i := 47) (z := 101) (p1 := 514) (p2 := 516) dX12_init_511 (ok_bipush dX12_init_512 (.head _) (irn4 (by decide) (by decide))) (ok_bipush dX12_init_514 (.head _) (irn4 (by decide) (by decide))) dX12_init_516 (by decide) (irn (by decide) (by decide)) rfl (irn (by decide) (by decide)) hC hx (by show (47 : Int) < N.1.2.1 a; rw [h1]; decide) ?_
  refine wn_bst (i := 48) (z := 32) (p1 := 520) (p2 := 522) dX12_init_517 (ok_bipush dX12_init_518 (.head _) (irn4 (by decide) (by decide))) (ok_bipush dX12_init_520 (.head _) (irn4 (by decide) (by decide))) dX12_init_522 (by decide) (irn (by decide) (by decide)) rfl (irn (by decide) (by decide)) hC hx (by show (48 : Int) < N.1.2.1 a; rw [h1]; decide) ?_
  refine wn_bst (i := 49) (z := 102) (p1 := 526) (p2 := 528) dX12_init_523 (ok_bipush dX12_init_524 (.head _) (irn4 (by decide) (by decide))) (ok_bipush dX12_init_526 (.head _) (irn4 (by decide) (by decide))) dX12_init_528 (by decide) (irn (by decide) (by decide)) rfl (irn (by decide) (by decide)) hC hx (by show (49 : Int) < N.1.2.1 a; rw [h1]; decide) ?_
  exact hk
theorem lt_5 {Z : ZT} (hC : MC YX12_init Z) {L : QL} {N : QN} {a b : Int} (hx : N.1.1 a = 42) (h1 : N.1.2.1 a = 111) (hk : WXN Z YX12_init.2.2.1 [(0, 2)] L (N.1, nB a 50 [111, 114, 101, 99, 97, 115, 116, 32, 115, 101] N.2.1, N.2.2) 589 [vo 2 a, vo 2 b]) : WXN Z YX12_init.2.2.1 [(0, 2)] L N 529 [vo 2 a, vo 2 b] := by
  refine wn_bst (i := 50) (z := 111) (p1 := 532) (p2 := 534) dX12_init_529 (ok_bipush dX12_init_530 (.head _) (irn4 (by decide) (by decide))) (ok_bipush dX12_init_532 (.head _) (irn4 (by decide) (by decide))) dX12_init_534 (by decide) (irn (by decide) (by decide)) rfl (irn (by decide) (by decide)) hC hx (by show (50 : Int) < N.1.2.1 a; rw [h1]; decide) ?_
  refine wn_bst (i := 51) (z := 114) (p1 := 538) (p2 := 540) dX12_init_535 (ok_bipush dX12_init_536 (.head _) (irn4 (by decide) (by decide))) (ok_bipush dX12_init_538 (.head _) (irn4 (by decide) (by decide))) dX12_init_540 (by decide) (irn (by decide) (by decide)) rfl (irn (by decide) (by decide)) hC hx (by show (51 : Int) < N.1.2.1 a; rw [h1]; decide) ?_
  refine wn_bst (i := 52) (z := 101) (p1 := 544) (p2 := 546) dX12_init_541 (ok_bipush dX12_init_542 (.head _) (irn4 (by decide) (by decide))) (ok_bipush dX12_init_544 (.head _) (irn4 (by decide) (by decide))) dX12_init_546 (by decide) (irn (by decide) (by decide)) rfl (irn (by decide) (by decide)) hC hx (by show (52 : Int) < N.1.2.1 a; rw [h1]; decide) ?_
  refine wn_bst (i := 53) (z := 99) (p1 := 550) (p2 := 552) dX12_init_547 (ok_bipush dX12_init_548 (.head _) (irn4 (by decide) (by decide))) (ok_bipush dX12_init_550 (.head _) (irn4 (by decide) (by decide))) dX12_init_552 (by decide) (irn (by decide) (by decide)) rfl (irn (by decide) (by decide)) hC hx (by show (53 : Int) < N.1.2.1 a; rw [h1]; decide) ?_
  refine wn_bst (i := 54) (z := 97) (p1 := 556) (p2 := 558) dX12_init_553 (ok_bipush dX12_init_554 (.head _) (irn4 (by decide) (by decide))) (ok_bipush dX12_init_556 (.head _) (irn4 (by decide) (by decide))) dX12_init_558 (by decide) (irn (by decide) (by decide)) rfl (irn (by decide) (by decide)) hC hx (by show (54 : Int) < N.1.2.1 a; rw [h1]; decide) ?_
  refine wn_bst (i := 55) (z := 115) (p1 := 562) (p2 := 564) dX12_init_559 (ok_bipush dX12_init_560 (.head _) (irn4 (by decide) (by decide))) (ok_bipush dX12_init_562 (.head _) (irn4 (by decide) (by decide))) dX12_init_564 (by decide) (irn (by decide) (by decide)) rfl (irn (by decide) (by decide)) hC hx (by show (55 : Int) < N.1.2.1 a; rw [h1]; decide) ?_
  refine wn_bst (i := 56) (z := 116) (p1 := 568) (p2 := 570) dX12_init_565 (ok_bipush dX12_init_566 (.head _) (irn4 (by decide) (by decide))) (ok_bipush dX12_init_568 (.head _) (irn4 (by decide) (by decide))) dX12_init_570 (by decide) (irn (by decide) (by decide)) rfl (irn (by decide) (by decide)) hC hx (by show (56 : Int) < N.1.2.1 a; rw [h1]; decide) ?_
  refine wn_bst (i := 57) (z := 32) (p1 := 574) (p2 := 576) dX12_init_571 (ok_bipush dX12_init_572 (.head _) (irn4 (by decide) (by decide))) (ok_bipush dX12_init_574 (.head _) (irn4 (by decide) (by decide))) dX12_init_576 (by decide) (irn (by decide) (by decide)) rfl (irn (by decide) (by decide)) hC hx (by show (57 : Int) < N.1.2.1 a; rw [h1]; decide) ?_
  refine wn_bst (i := 58) (z := 115) (p1 := 580) (p2 := 582) dX12_init_577 (ok_bipush dX12_init_578 (.head _) (irn4 (by decide) (by decide))) (ok_bipush dX12_init_580 (.head _) (irn4 (by decide) (by decide))) dX12_init_582 (by decide) (irn (by decide) (by decide)) rfl (irn (by decide) (by decide)) hC hx (by show (58 : Int) < N.1.2.1 a; rw [h1]; decide) ?_
  refine wn_bst (i := 59) (z := 101) (p1 := 586) (p2 := 588) dX12_init_583 (ok_bipush dX12_init_584 (.head _) (irn4 (by decide) (by decide))) (ok_bipush dX12_init_586 (.head _) (irn4 (by decide) (by decide))) dX12_init_588 (by decide) (irn (by decide) (by decide)) rfl (irn (by decide) (by decide)) hC hx (by show (59 : Int) < N.1.2.1 a; rw [h1]; decide) ?_
  exact hk
theorem lt_6 {Z : ZT} (hC : MC YX12_init Z) {L : QL} {N : QN} {a b : Int} (hx : N.1.1 a = 42) (h1 : N.1.2.1 a = 111) (hk : WXN Z YX12_init.2.2.1 [(0, 2)] L (N.1, nB a 60 [97, 115, 111, 110, 32, 98, 97, 110, 100, 32] N.2.1, N.2.2) 649 [vo 2 a, vo 2 b]) : WXN Z YX12_init.2.2.1 [(0, 2)] L N 589 [vo 2 a, vo 2 b] := by
  refine wn_bst (i := 60) (z := 97) (p1 := 592) (p2 := 594) dX12_init_589 (ok_bipush dX12_init_590 (.head _) (irn4 (by decide) (by decide))) (ok_bipush dX12_init_592 (.head _) (irn4 (by decide) (by decide))) dX12_init_594 (by decide) (irn (by decide) (by decide)) rfl (irn (by decide) (by decide)) hC hx (by show (60 : Int) < N.1.2.1 a; rw [h1]; decide) ?_
  refine wn_bst (i := 61) (z := 115) (p1 := 598) (p2 := 600) dX12_init_595 (ok_bipush dX12_init_596 (.head _) (irn4 (by decide) (by decide))) (ok_bipush dX12_init_598 (.head _) (irn4 (by decide) (by decide))) dX12_init_600 (by decide) (irn (by decide) (by decide)) rfl (irn (by decide) (by decide)) hC hx (by show (61 : Int) < N.1.2.1 a; rw [h1]; decide) ?_
  refine wn_bst (i := 62) (z := 111) (p1 := 604) (p2 := 606) dX12_init_601 (ok_bipush dX12_init_602 (.head _) (irn4 (by decide) (by decide))) (ok_bipush dX12_init_604 (.head _) (irn4 (by decide) (by decide))) dX12_init_606 (by decide) (irn (by decide) (by decide)) rfl (irn (by decide) (by decide)) hC hx (by show (62 : Int) < N.1.2.1 a; rw [h1]; decide) ?_
  refine wn_bst (i := 63) (z := 110) (p1 := 610) (p2 := 612) dX12_init_607 (ok_bipush dX12_init_608 (.head _) (irn4 (by decide) (by decide))) (ok_bipush dX12_init_610 (.head _) (irn4 (by decide) (by decide))) dX12_init_612 (by decide) (irn (by decide) (by decide)) rfl (irn (by decide) (by decide)) hC hx (by show (63 : Int) < N.1.2.1 a; rw [h1]; decide) ?_
  refine wn_bst (i := 64) (z := 32) (p1 := 616) (p2 := 618) dX12_init_613 (ok_bipush dX12_init_614 (.head _) (irn4 (by decide) (by decide))) (ok_bipush dX12_init_616 (.head _) (irn4 (by decide) (by decide))) dX12_init_618 (by decide) (irn (by decide) (by decide)) rfl (irn (by decide) (by decide)) hC hx (by show (64 : Int) < N.1.2.1 a; rw [h1]; decide) ?_
  refine wn_bst (i := 65) (z := 98) (p1 := 622) (p2 := 624) dX12_init_619 (ok_bipush dX12_init_620 (.head _) (irn4 (by decide) (by decide))) (ok_bipush dX12_init_622 (.head _) (irn4 (by decide) (by decide))) dX12_init_624 (by decide) (irn (by decide) (by decide)) rfl (irn (by decide) (by decide)) hC hx (by show (65 : Int) < N.1.2.1 a; rw [h1]; decide) ?_
  refine wn_bst (i := 66) (z := 97) (p1 := 628) (p2 := 630) dX12_init_625 (ok_bipush dX12_init_626 (.head _) (irn4 (by decide) (by decide))) (ok_bipush dX12_init_628 (.head _) (irn4 (by decide) (by decide))) dX12_init_630 (by decide) (irn (by decide) (by decide)) rfl (irn (by decide) (by decide)) hC hx (by show (66 : Int) < N.1.2.1 a; rw [h1]; decide) ?_
  refine wn_bst (i := 67) (z := 110) (p1 := 634) (p2 := 636) dX12_init_631 (ok_bipush dX12_init_632 (.head _) (irn4 (by decide) (by decide))) (ok_bipush dX12_init_634 (.head _) (irn4 (by decide) (by decide))) dX12_init_636 (by decide) (irn (by decide) (by decide)) rfl (irn (by decide) (by decide)) hC hx (by show (67 : Int) < N.1.2.1 a; rw [h1]; decide) ?_
  refine wn_bst (i := 68) (z := 100) (p1 := 640) (p2 := 642) dX12_init_637 (ok_bipush dX12_init_638 (.head _) (irn4 (by decide) (by decide))) (ok_bipush dX12_init_640 (.head _) (irn4 (by decide) (by decide))) dX12_init_642 (by decide) (irn (by decide) (by decide)) rfl (irn (by decide) (by decide)) hC hx (by show (68 : Int) < N.1.2.1 a; rw [h1]; decide) ?_
  refine wn_bst (i := 69) (z := 32) (p1 := 646) (p2 := 648) dX12_init_643 (ok_bipush dX12_init_644 (.head _) (irn4 (by decide) (by decide))) (ok_bipush dX12_init_646 (.head _) (irn4 (by decide) (by decide))) dX12_init_648 (by decide) (irn (by decide) (by decide)) rfl (irn (by decide) (by decide)) hC hx (by show (69 : Int) < N.1.2.1 a; rw [h1]; decide) ?_
  exact hk
theorem lt_7 {Z : ZT} (hC : MC YX12_init Z) {L : QL} {N : QN} {a b : Int} (hx : N.1.1 a = 42) (h1 : N.1.2.1 a = 111) (hk : WXN Z YX12_init.2.2.1 [(0, 2)] L (N.1, nB a 70 [115, 104, 111, 119, 32, 103, 97, 117, 103, 101] N.2.1, N.2.2) 709 [vo 2 a, vo 2 b]) : WXN Z YX12_init.2.2.1 [(0, 2)] L N 649 [vo 2 a, vo 2 b] := by
  refine wn_bst (i := 70) (z := 115) (p1 := 652) (p2 := 654) dX12_init_649 (ok_bipush dX12_init_650 (.head _) (irn4 (by decide) (by decide))) (ok_bipush dX12_init_652 (.head _) (irn4 (by decide) (by decide))) dX12_init_654 (by decide) (irn (by decide) (by decide)) rfl (irn (by decide) (by decide)) hC hx (by show (70 : Int) < N.1.2.1 a; rw [h1]; decide) ?_
  refine wn_bst (i := 71) (z := 104) (p1 := 658) (p2 := 660) dX12_init_655 (ok_bipush dX12_init_656 (.head _) (irn4 (by decide) (by decide))) (ok_bipush dX12_init_658 (.head _) (irn4 (by decide) (by decide))) dX12_init_660 (by decide) (irn (by decide) (by decide)) rfl (irn (by decide) (by decide)) hC hx (by show (71 : Int) < N.1.2.1 a; rw [h1]; decide) ?_
  refine wn_bst (i := 72) (z := 111) (p1 := 664) (p2 := 666) dX12_init_661 (ok_bipush dX12_init_662 (.head _) (irn4 (by decide) (by decide))) (ok_bipush dX12_init_664 (.head _) (irn4 (by decide) (by decide))) dX12_init_666 (by decide) (irn (by decide) (by decide)) rfl (irn (by decide) (by decide)) hC hx (by show (72 : Int) < N.1.2.1 a; rw [h1]; decide) ?_
  refine wn_bst (i := 73) (z := 119) (p1 := 670) (p2 := 672) dX12_init_667 (ok_bipush dX12_init_668 (.head _) (irn4 (by decide) (by decide))) (ok_bipush dX12_init_670 (.head _) (irn4 (by decide) (by decide))) dX12_init_672 (by decide) (irn (by decide) (by decide)) rfl (irn (by decide) (by decide)) hC hx (by show (73 : Int) < N.1.2.1 a; rw [h1]; decide) ?_
  refine wn_bst (i := 74) (z := 32) (p1 := 676) (p2 := 678) dX12_init_673 (ok_bipush dX12_init_674 (.head _) (irn4 (by decide) (by decide))) (ok_bipush dX12_init_676 (.head _) (irn4 (by decide) (by decide))) dX12_init_678 (by decide) (irn (by decide) (by decide)) rfl (irn (by decide) (by decide)) hC hx (by show (74 : Int) < N.1.2.1 a; rw [h1]; decide) ?_
  refine wn_bst (i := 75) (z := 103) (p1 := 682) (p2 := 684) dX12_init_679 (ok_bipush dX12_init_680 (.head _) (irn4 (by decide) (by decide))) (ok_bipush dX12_init_682 (.head _) (irn4 (by decide) (by decide))) dX12_init_684 (by decide) (irn (by decide) (by decide)) rfl (irn (by decide) (by decide)) hC hx (by show (75 : Int) < N.1.2.1 a; rw [h1]; decide) ?_
  refine wn_bst (i := 76) (z := 97) (p1 := 688) (p2 := 690) dX12_init_685 (ok_bipush dX12_init_686 (.head _) (irn4 (by decide) (by decide))) (ok_bipush dX12_init_688 (.head _) (irn4 (by decide) (by decide))) dX12_init_690 (by decide) (irn (by decide) (by decide)) rfl (irn (by decide) (by decide)) hC hx (by show (76 : Int) < N.1.2.1 a; rw [h1]; decide) ?_
  refine wn_bst (i := 77) (z := 117) (p1 := 694) (p2 := 696) dX12_init_691 (ok_bipush dX12_init_692 (.head _) (irn4 (by decide) (by decide))) (ok_bipush dX12_init_694 (.head _) (irn4 (by decide) (by decide))) dX12_init_696 (by decide) (irn (by decide) (by decide)) rfl (irn (by decide) (by decide)) hC hx (by show (77 : Int) < N.1.2.1 a; rw [h1]; decide) ?_
  refine wn_bst (i := 78) (z := 103) (p1 := 700) (p2 := 702) dX12_init_697 (ok_bipush dX12_init_698 (.head _) (irn4 (by decide) (by decide))) (ok_bipush dX12_init_700 (.head _) (irn4 (by decide) (by decide))) dX12_init_702 (by decide) (irn (by decide) (by decide)) rfl (irn (by decide) (by decide)) hC hx (by show (78 : Int) < N.1.2.1 a; rw [h1]; decide) ?_
  refine wn_bst (i := 79) (z := 101) (p1 := 706) (p2 := 708) dX12_init_703 (ok_bipush dX12_init_704 (.head _) (irn4 (by decide) (by decide))) (ok_bipush dX12_init_706 (.head _) (irn4 (by decide) (by decide))) dX12_init_708 (by decide) (irn (by decide) (by decide)) rfl (irn (by decide) (by decide)) hC hx (by show (79 : Int) < N.1.2.1 a; rw [h1]; decide) ?_
  exact hk
theorem lt_8 {Z : ZT} (hC : MC YX12_init Z) {L : QL} {N : QN} {a b : Int} (hx : N.1.1 a = 42) (h1 : N.1.2.1 a = 111) (hk : WXN Z YX12_init.2.2.1 [(0, 2)] L (N.1, nB a 80 [32, 97, 109, 111, 117, 110, 116, 32, 99, 111] N.2.1, N.2.2) 769 [vo 2 a, vo 2 b]) : WXN Z YX12_init.2.2.1 [(0, 2)] L N 709 [vo 2 a, vo 2 b] := by
  refine wn_bst (i := 80) (z := 32) (p1 := 712) (p2 := 714) dX12_init_709 (ok_bipush dX12_init_710 (.head _) (irn4 (by decide) (by decide))) (ok_bipush dX12_init_712 (.head _) (irn4 (by decide) (by decide))) dX12_init_714 (by decide) (irn (by decide) (by decide)) rfl (irn (by decide) (by decide)) hC hx (by show (80 : Int) < N.1.2.1 a; rw [h1]; decide) ?_
  refine wn_bst (i := 81) (z := 97) (p1 := 718) (p2 := 720) dX12_init_715 (ok_bipush dX12_init_716 (.head _) (irn4 (by decide) (by decide))) (ok_bipush dX12_init_718 (.head _) (irn4 (by decide) (by decide))) dX12_init_720 (by decide) (irn (by decide) (by decide)) rfl (irn (by decide) (by decide)) hC hx (by show (81 : Int) < N.1.2.1 a; rw [h1]; decide) ?_
  refine wn_bst (i := 82) (z := 109) (p1 := 724) (p2 := 726) dX12_init_721 (ok_bipush dX12_init_722 (.head _) (irn4 (by decide) (by decide))) (ok_bipush dX12_init_724 (.head _) (irn4 (by decide) (by decide))) dX12_init_726 (by decide) (irn (by decide) (by decide)) rfl (irn (by decide) (by decide)) hC hx (by show (82 : Int) < N.1.2.1 a; rw [h1]; decide) ?_
  refine wn_bst (i := 83) (z := 111) (p1 := 730) (p2 := 732) dX12_init_727 (ok_bipush dX12_init_728 (.head _) (irn4 (by decide) (by decide))) (ok_bipush dX12_init_730 (.head _) (irn4 (by decide) (by decide))) dX12_init_732 (by decide) (irn (by decide) (by decide)) rfl (irn (by decide) (by decide)) hC hx (by show (83 : Int) < N.1.2.1 a; rw [h1]; decide) ?_
  refine wn_bst (i := 84) (z := 117) (p1 := 736) (p2 := 738) dX12_init_733 (ok_bipush dX12_init_734 (.head _) (irn4 (by decide) (by decide))) (ok_bipush dX12_init_736 (.head _) (irn4 (by decide) (by decide))) dX12_init_738 (by decide) (irn (by decide) (by decide)) rfl (irn (by decide) (by decide)) hC hx (by show (84 : Int) < N.1.2.1 a; rw [h1]; decide) ?_
  refine wn_bst (i := 85) (z := 110) (p1 := 742) (p2 := 744) dX12_init_739 (ok_bipush dX12_init_740 (.head _) (irn4 (by decide) (by decide))) (ok_bipush dX12_init_742 (.head _) (irn4 (by decide) (by decide))) dX12_init_744 (by decide) (irn (by decide) (by decide)) rfl (irn (by decide) (by decide)) hC hx (by show (85 : Int) < N.1.2.1 a; rw [h1]; decide) ?_
  refine wn_bst (i := 86) (z := 116) (p1 := 748) (p2 := 750) dX12_init_745 (ok_bipush dX12_init_746 (.head _) (irn4 (by decide) (by decide))) (ok_bipush dX12_init_748 (.head _) (irn4 (by decide) (by decide))) dX12_init_750 (by decide) (irn (by decide) (by decide)) rfl (irn (by decide) (by decide)) hC hx (by show (86 : Int) < N.1.2.1 a; rw [h1]; decide) ?_
  refine wn_bst (i := 87) (z := 32) (p1 := 754) (p2 := 756) dX12_init_751 (ok_bipush dX12_init_752 (.head _) (irn4 (by decide) (by decide))) (ok_bipush dX12_init_754 (.head _) (irn4 (by decide) (by decide))) dX12_init_756 (by decide) (irn (by decide) (by decide)) rfl (irn (by decide) (by decide)) hC hx (by show (87 : Int) < N.1.2.1 a; rw [h1]; decide) ?_
  refine wn_bst (i := 88) (z := 99) (p1 := 760) (p2 := 762) dX12_init_757 (ok_bipush dX12_init_758 (.head _) (irn4 (by decide) (by decide))) (ok_bipush dX12_init_760 (.head _) (irn4 (by decide) (by decide))) dX12_init_762 (by decide) (irn (by decide) (by decide)) rfl (irn (by decide) (by decide)) hC hx (by show (88 : Int) < N.1.2.1 a; rw [h1]; decide) ?_
  refine wn_bst (i := 89) (z := 111) (p1 := 766) (p2 := 768) dX12_init_763 (ok_bipush dX12_init_764 (.head _) (irn4 (by decide) (by decide))) (ok_bipush dX12_init_766 (.head _) (irn4 (by decide) (by decide))) dX12_init_768 (by decide) (irn (by decide) (by decide)) rfl (irn (by decide) (by decide)) hC hx (by show (89 : Int) < N.1.2.1 a; rw [h1]; decide) ?_
  exact hk
theorem lt_9 {Z : ZT} (hC : MC YX12_init Z) {L : QL} {N : QN} {a b : Int} (hx : N.1.1 a = 42) (h1 : N.1.2.1 a = 111) (hk : WXN Z YX12_init.2.2.1 [(0, 2)] L (N.1, nB a 90 [117, 110, 116, 101, 114, 32, 109, 101, 97, 110] N.2.1, N.2.2) 829 [vo 2 a, vo 2 b]) : WXN Z YX12_init.2.2.1 [(0, 2)] L N 769 [vo 2 a, vo 2 b] := by
  refine wn_bst (i := 90) (z := 117) (p1 := 772) (p2 := 774) dX12_init_769 (ok_bipush dX12_init_770 (.head _) (irn4 (by decide) (by decide))) (ok_bipush dX12_init_772 (.head _) (irn4 (by decide) (by decide))) dX12_init_774 (by decide) (irn (by decide) (by decide)) rfl (irn (by decide) (by decide)) hC hx (by show (90 : Int) < N.1.2.1 a; rw [h1]; decide) ?_
  refine wn_bst (i := 91) (z := 110) (p1 := 778) (p2 := 780) dX12_init_775 (ok_bipush dX12_init_776 (.head _) (irn4 (by decide) (by decide))) (ok_bipush dX12_init_778 (.head _) (irn4 (by decide) (by decide))) dX12_init_780 (by decide) (irn (by decide) (by decide)) rfl (irn (by decide) (by decide)) hC hx (by show (91 : Int) < N.1.2.1 a; rw [h1]; decide) ?_
  refine wn_bst (i := 92) (z := 116) (p1 := 784) (p2 := 786) dX12_init_781 (ok_bipush dX12_init_782 (.head _) (irn4 (by decide) (by decide))) (ok_bipush dX12_init_784 (.head _) (irn4 (by decide) (by decide))) dX12_init_786 (by decide) (irn (by decide) (by decide)) rfl (irn (by decide) (by decide)) hC hx (by show (92 : Int) < N.1.2.1 a; rw [h1]; decide) ?_
  refine wn_bst (i := 93) (z := 101) (p1 := 790) (p2 := 792) dX12_init_787 (ok_bipush dX12_init_788 (.head _) (irn4 (by decide) (by decide))) (ok_bipush dX12_init_790 (.head _) (irn4 (by decide) (by decide))) dX12_init_792 (by decide) (irn (by decide) (by decide)) rfl (irn (by decide) (by decide)) hC hx (by show (93 : Int) < N.1.2.1 a; rw [h1]; decide) ?_
  refine wn_bst (i := 94) (z := 114) (p1 := 796) (p2 := 798) dX12_init_793 (ok_bipush dX12_init_794 (.head _) (irn4 (by decide) (by decide))) (ok_bipush dX12_init_796 (.head _) (irn4 (by decide) (by decide))) dX12_init_798 (by decide) (irn (by decide) (by decide)) rfl (irn (by decide) (by decide)) hC hx (by show (94 : Int) < N.1.2.1 a; rw [h1]; decide) ?_
  refine wn_bst (i := 95) (z := 32) (p1 := 802) (p2 := 804) dX12_init_799 (ok_bipush dX12_init_800 (.head _) (irn4 (by decide) (by decide))) (ok_bipush dX12_init_802 (.head _) (irn4 (by decide) (by decide))) dX12_init_804 (by decide) (irn (by decide) (by decide)) rfl (irn (by decide) (by decide)) hC hx (by show (95 : Int) < N.1.2.1 a; rw [h1]; decide) ?_
  refine wn_bst (i := 96) (z := 109) (p1 := 808) (p2 := 810) dX12_init_805 (ok_bipush dX12_init_806 (.head _) (irn4 (by decide) (by decide))) (ok_bipush dX12_init_808 (.head _) (irn4 (by decide) (by decide))) dX12_init_810 (by decide) (irn (by decide) (by decide)) rfl (irn (by decide) (by decide)) hC hx (by show (96 : Int) < N.1.2.1 a; rw [h1]; decide) ?_
  refine wn_bst (i := 97) (z := 101) (p1 := 814) (p2 := 816) dX12_init_811 (ok_bipush dX12_init_812 (.head _) (irn4 (by decide) (by decide))) (ok_bipush dX12_init_814 (.head _) (irn4 (by decide) (by decide))) dX12_init_816 (by decide) (irn (by decide) (by decide)) rfl (irn (by decide) (by decide)) hC hx (by show (97 : Int) < N.1.2.1 a; rw [h1]; decide) ?_
  refine wn_bst (i := 98) (z := 97) (p1 := 820) (p2 := 822) dX12_init_817 (ok_bipush dX12_init_818 (.head _) (irn4 (by decide) (by decide))) (ok_bipush dX12_init_820 (.head _) (irn4 (by decide) (by decide))) dX12_init_822 (by decide) (irn (by decide) (by decide)) rfl (irn (by decide) (by decide)) hC hx (by show (98 : Int) < N.1.2.1 a; rw [h1]; decide) ?_
  refine wn_bst (i := 99) (z := 110) (p1 := 826) (p2 := 828) dX12_init_823 (ok_bipush dX12_init_824 (.head _) (irn4 (by decide) (by decide))) (ok_bipush dX12_init_826 (.head _) (irn4 (by decide) (by decide))) dX12_init_828 (by decide) (irn (by decide) (by decide)) rfl (irn (by decide) (by decide)) hC hx (by show (99 : Int) < N.1.2.1 a; rw [h1]; decide) ?_
  exact hk
theorem lt_10 {Z : ZT} (hC : MC YX12_init Z) {L : QL} {N : QN} {a b : Int} (hx : N.1.1 a = 42) (h1 : N.1.2.1 a = 111) (hk : WXN Z YX12_init.2.2.1 [(0, 2)] L (N.1, nB a 100 [32, 108, 97, 116, 101, 115, 116, 32, 111, 114] N.2.1, N.2.2) 889 [vo 2 a, vo 2 b]) : WXN Z YX12_init.2.2.1 [(0, 2)] L N 829 [vo 2 a, vo 2 b] := by
  refine wn_bst (i := 100) (z := 32) (p1 := 832) (p2 := 834) dX12_init_829 (ok_bipush dX12_init_830 (.head _) (irn4 (by decide) (by decide))) (ok_bipush dX12_init_832 (.head _) (irn4 (by decide) (by decide))) dX12_init_834 (by decide) (irn (by decide) (by decide)) rfl (irn (by decide) (by decide)) hC hx (by show (100 : Int) < N.1.2.1 a; rw [h1]; decide) ?_
  refine wn_bst (i := 101) (z := 108) (p1 := 838) (p2 := 840) dX12_init_835 (ok_bipush dX12_init_836 (.head _) (irn4 (by decide) (by decide))) (ok_bipush dX12_init_838 (.head _) (irn4 (by decide) (by decide))) dX12_init_840 (by decide) (irn (by decide) (by decide)) rfl (irn (by decide) (by decide)) hC hx (by show (101 : Int) < N.1.2.1 a; rw [h1]; decide) ?_
  refine wn_bst (i := 102) (z := 97) (p1 := 844) (p2 := 846) dX12_init_841 (ok_bipush dX12_init_842 (.head _) (irn4 (by decide) (by decide))) (ok_bipush dX12_init_844 (.head _) (irn4 (by decide) (by decide))) dX12_init_846 (by decide) (irn (by decide) (by decide)) rfl (irn (by decide) (by decide)) hC hx (by show (102 : Int) < N.1.2.1 a; rw [h1]; decide) ?_
  refine wn_bst (i := 103) (z := 116) (p1 := 850) (p2 := 852) dX12_init_847 (ok_bipush dX12_init_848 (.head _) (irn4 (by decide) (by decide))) (ok_bipush dX12_init_850 (.head _) (irn4 (by decide) (by decide))) dX12_init_852 (by decide) (irn (by decide) (by decide)) rfl (irn (by decide) (by decide)) hC hx (by show (103 : Int) < N.1.2.1 a; rw [h1]; decide) ?_
  refine wn_bst (i := 104) (z := 101) (p1 := 856) (p2 := 858) dX12_init_853 (ok_bipush dX12_init_854 (.head _) (irn4 (by decide) (by decide))) (ok_bipush dX12_init_856 (.head _) (irn4 (by decide) (by decide))) dX12_init_858 (by decide) (irn (by decide) (by decide)) rfl (irn (by decide) (by decide)) hC hx (by show (104 : Int) < N.1.2.1 a; rw [h1]; decide) ?_
  refine wn_bst (i := 105) (z := 115) (p1 := 862) (p2 := 864) dX12_init_859 (ok_bipush dX12_init_860 (.head _) (irn4 (by decide) (by decide))) (ok_bipush dX12_init_862 (.head _) (irn4 (by decide) (by decide))) dX12_init_864 (by decide) (irn (by decide) (by decide)) rfl (irn (by decide) (by decide)) hC hx (by show (105 : Int) < N.1.2.1 a; rw [h1]; decide) ?_
  refine wn_bst (i := 106) (z := 116) (p1 := 868) (p2 := 870) dX12_init_865 (ok_bipush dX12_init_866 (.head _) (irn4 (by decide) (by decide))) (ok_bipush dX12_init_868 (.head _) (irn4 (by decide) (by decide))) dX12_init_870 (by decide) (irn (by decide) (by decide)) rfl (irn (by decide) (by decide)) hC hx (by show (106 : Int) < N.1.2.1 a; rw [h1]; decide) ?_
  refine wn_bst (i := 107) (z := 32) (p1 := 874) (p2 := 876) dX12_init_871 (ok_bipush dX12_init_872 (.head _) (irn4 (by decide) (by decide))) (ok_bipush dX12_init_874 (.head _) (irn4 (by decide) (by decide))) dX12_init_876 (by decide) (irn (by decide) (by decide)) rfl (irn (by decide) (by decide)) hC hx (by show (107 : Int) < N.1.2.1 a; rw [h1]; decide) ?_
  refine wn_bst (i := 108) (z := 111) (p1 := 880) (p2 := 882) dX12_init_877 (ok_bipush dX12_init_878 (.head _) (irn4 (by decide) (by decide))) (ok_bipush dX12_init_880 (.head _) (irn4 (by decide) (by decide))) dX12_init_882 (by decide) (irn (by decide) (by decide)) rfl (irn (by decide) (by decide)) hC hx (by show (108 : Int) < N.1.2.1 a; rw [h1]; decide) ?_
  refine wn_bst (i := 109) (z := 114) (p1 := 886) (p2 := 888) dX12_init_883 (ok_bipush dX12_init_884 (.head _) (irn4 (by decide) (by decide))) (ok_bipush dX12_init_886 (.head _) (irn4 (by decide) (by decide))) dX12_init_888 (by decide) (irn (by decide) (by decide)) rfl (irn (by decide) (by decide)) hC hx (by show (109 : Int) < N.1.2.1 a; rw [h1]; decide) ?_
  exact hk
theorem lt_11 {Z : ZT} (hC : MC YX12_init Z) {L : QL} {N : QN} {a b : Int} (hx : N.1.1 a = 42) (h1 : N.1.2.1 a = 111) (hk : WXN Z YX12_init.2.2.1 [(0, 2)] L (N.1, nB a 110 [32] N.2.1, N.2.2) 895 [vo 2 a, vo 2 b]) : WXN Z YX12_init.2.2.1 [(0, 2)] L N 889 [vo 2 a, vo 2 b] := by
  refine wn_bst (i := 110) (z := 32) (p1 := 892) (p2 := 894) dX12_init_889 (ok_bipush dX12_init_890 (.head _) (irn4 (by decide) (by decide))) (ok_bipush dX12_init_892 (.head _) (irn4 (by decide) (by decide))) dX12_init_894 (by decide) (irn (by decide) (by decide)) rfl (irn (by decide) (by decide)) hC hx (by show (110 : Int) < N.1.2.1 a; rw [h1]; decide) ?_
  exact hk
def nLet (a : Int) (v : QV) : QV :=
 (nB a 110 [32] (nB a 100 [32, 108, 97, 116, 101, 115, 116, 32, 111, 114] (nB a 90 [117, 110, 116, 101, 114, 32, 109, 101, 97, 110] (nB a 80 [32, 97, 109, 111, 117, 110, 116, 32, 99, 111] (nB a 70 [115, 104, 111, 119, 32, 103, 97, 117, 103, 101] (nB a 60 [97, 115, 111, 110, 32, 98, 97, 110, 100, 32] (nB a 50 [111, 114, 101, 99, 97, 115, 116, 32, 115, 101] (nB a 40 [98, 121, 32, 115, 104, 97, 114, 101, 32, 102] (nB a 30 [116, 32, 97, 114, 99, 104, 105, 118, 101, 32] (nB a 20 [32, 108, 101, 97, 115, 116, 32, 109, 111, 115] (nB a 10 [114, 101, 32, 115, 105, 108, 101, 110, 99, 101] (nB a 0 [115, 116, 101, 112, 32, 109, 101, 97, 115, 117] v))))))))))))
def nFB : NT := fun L N => (nAl 42 111 111 (fun _ => 0) N).bind fun M => if M.1.1 (L 0) = 13 then some (L, (M.1, vu (nLet (N.1.2.2 : Int) M.2.1) (L 0) 41 (N.1.2.2 : Int), M.2.2)) else none
theorem oFB : OkN YX12_init [(0, 2)] [(0, 2)] 230 [898] nFB := by
  intro Z hC hI2 L N r hf hk kc uc hk1 hu1
  obtain ⟨M, h1, h2⟩ := Option.bind_eq_some_iff.mp hf
  by_cases hx : M.1.1 (L 0) = 13
  case neg => rw [if_neg hx] at h2; cases h2
  rw [if_pos hx] at h2
  cases h2
  have hC1 := hC.at (k := kc) (u := uc) (by omega) (by omega)
  refine (show OkE YX12_init [(0, 2)] 0 2 230 [231] (eV 0) from (ok_aload_n dX12_init_230 (.head _) rfl (.head _))) (ZC Z kc uc) hC1 L N.1 N.2.1 (L 0, N.2.1) [] rfl (Nat.zero_le _) (fun _ t ht => ?_)
  rw [List.mem_singleton.mp ht]
  refine (show OkE YX12_init [(0, 2)] 1 0 231 [233] (eI 111) from (ok_bipush dX12_init_231 (.head _) (irn4 (by decide) (by decide)))) (ZC Z kc uc) hC1 L N.1 N.2.1 (111, N.2.1) _ rfl (cat1 _) (fun _ t ht => ?_)
  rw [List.mem_singleton.mp ht]
  have e1 : M.1.1 (N.1.2.2 : Int) = 42 := nAl_at h1
  have e2 : M.1.2.1 (N.1.2.2 : Int) = 111 := nAl_len h1
  refine wn_newa (κ := 42) (n := 111) hC ak_42 ka_arrayClass_4_9 (by decide) (by decide) (Nat.le_of_ble_eq_true rfl) dX12_init_233 h1 ?_ kc uc hk1 hu1
  refine lt_0 (N := M) hC e1 e2 ?_
  refine lt_1 (N := (M.1, nB (N.1.2.2 : Int) 0 [115, 116, 101, 112, 32, 109, 101, 97, 115, 117] (M.2.1), M.2.2)) hC e1 e2 ?_
  refine lt_2 (N := (M.1, nB (N.1.2.2 : Int) 10 [114, 101, 32, 115, 105, 108, 101, 110, 99, 101] (nB (N.1.2.2 : Int) 0 [115, 116, 101, 112, 32, 109, 101, 97, 115, 117] (M.2.1)), M.2.2)) hC e1 e2 ?_
  refine lt_3 (N := (M.1, nB (N.1.2.2 : Int) 20 [32, 108, 101, 97, 115, 116, 32, 109, 111, 115] (nB (N.1.2.2 : Int) 10 [114, 101, 32, 115, 105, 108, 101, 110, 99, 101] (nB (N.1.2.2 : Int) 0 [115, 116, 101, 112, 32, 109, 101, 97, 115, 117] (M.2.1))), M.2.2)) hC e1 e2 ?_
  refine lt_4 (N := (M.1, nB (N.1.2.2 : Int) 30 [116, 32, 97, 114, 99, 104, 105, 118, 101, 32] (nB (N.1.2.2 : Int) 20 [32, 108, 101, 97, 115, 116, 32, 109, 111, 115] (nB (N.1.2.2 : Int) 10 [114, 101, 32, 115, 105, 108, 101, 110, 99, 101] (nB (N.1.2.2 : Int) 0 [115, 116, 101, 112, 32, 109, 101, 97, 115, 117] (M.2.1)))), M.2.2)) hC e1 e2 ?_
  refine lt_5 (N := (M.1, nB (N.1.2.2 : Int) 40 [98, 121, 32, 115, 104, 97, 114, 101, 32, 102] (nB (N.1.2.2 : Int) 30 [116, 32, 97, 114, 99, 104, 105, 118, 101, 32] (nB (N.1.2.2 : Int) 20 [32, 108, 101, 97, 115, 116, 32, 109, 111, 115] (nB (N.1.2.2 : Int) 10 [114, 101, 32, 115, 105, 108, 101, 110, 99, 101] (nB (N.1.2.2 : Int) 0 [115, 116, 101, 112, 32, 109, 101, 97, 115, 117] (M.2.1))))), M.2.2)) hC e1 e2 ?_
  refine lt_6 (N := (M.1, nB (N.1.2.2 : Int) 50 [111, 114, 101, 99, 97, 115, 116, 32, 115, 101] (nB (N.1.2.2 : Int) 40 [98, 121, 32, 115, 104, 97, 114, 101, 32, 102] (nB (N.1.2.2 : Int) 30 [116, 32, 97, 114, 99, 104, 105, 118, 101, 32] (nB (N.1.2.2 : Int) 20 [32, 108, 101, 97, 115, 116, 32, 109, 111, 115] (nB (N.1.2.2 : Int) 10 [114, 101, 32, 115, 105, 108, 101, 110, 99, 101] (nB (N.1.2.2 : Int) 0 [115, 116, 101, 112, 32, 109, 101, 97, 115, 117] (M.2.1)))))), M.2.2)) hC e1 e2 ?_
  refine lt_7 (N := (M.1, nB (N.1.2.2 : Int) 60 [97, 115, 111, 110, 32, 98, 97, 110, 100, 32] (nB (N.1.2.2 : Int) 50 [111, 114, 101, 99, 97, 115, 116, 32, 115, 101] (nB (N.1.2.2 : Int) 40 [98, 121, 32, 115, 104, 97, 114, 101, 32, 102] (nB (N.1.2.2 : Int) 30 [116, 32, 97, 114, 99, 104, 105, 118, 101, 32] (nB (N.1.2.2 : Int) 20 [32, 108, 101, 97, 115, 116, 32, 109, 111, 115] (nB (N.1.2.2 : Int) 10 [114, 101, 32, 115, 105, 108, 101, 110, 99, 101] (nB (N.1.2.2 : Int) 0 [115, 116, 101, 112, 32, 109, 101, 97, 115, 117] (M.2.1))))))), M.2.2)) hC e1 e2 ?_
  refine lt_8 (N := (M.1, nB (N.1.2.2 : Int) 70 [115, 104, 111, 119, 32, 103, 97, 117, 103, 101] (nB (N.1.2.2 : Int) 60 [97, 115, 111, 110, 32, 98, 97, 110, 100, 32] (nB (N.1.2.2 : Int) 50 [111, 114, 101, 99, 97, 115, 116, 32, 115, 101] (nB (N.1.2.2 : Int) 40 [98, 121, 32, 115, 104, 97, 114, 101, 32, 102] (nB (N.1.2.2 : Int) 30 [116, 32, 97, 114, 99, 104, 105, 118, 101, 32] (nB (N.1.2.2 : Int) 20 [32, 108, 101, 97, 115, 116, 32, 109, 111, 115] (nB (N.1.2.2 : Int) 10 [114, 101, 32, 115, 105, 108, 101, 110, 99, 101] (nB (N.1.2.2 : Int) 0 [115, 116, 101, 112, 32, 109, 101, 97, 115, 117] (M.2.1)))))))), M.2.2)) hC e1 e2 ?_
  refine lt_9 (N := (M.1, nB (N.1.2.2 : Int) 80 [32, 97, 109, 111, 117, 110, 116, 32, 99, 111] (nB (N.1.2.2 : Int) 70 [115, 104, 111, 119, 32, 103, 97, 117, 103, 101] (nB (N.1.2.2 : Int) 60 [97, 115, 111, 110, 32, 98, 97, 110, 100, 32] (nB (N.1.2.2 : Int) 50 [111, 114, 101, 99, 97, 115, 116, 32, 115, 101] (nB (N.1.2.2 : Int) 40 [98, 121, 32, 115, 104, 97, 114, 101, 32, 102] (nB (N.1.2.2 : Int) 30 [116, 32, 97, 114, 99, 104, 105, 118, 101, 32] (nB (N.1.2.2 : Int) 20 [32, 108, 101, 97, 115, 116, 32, 109, 111, 115] (nB (N.1.2.2 : Int) 10 [114, 101, 32, 115, 105, 108, 101, 110, 99, 101] (nB (N.1.2.2 : Int) 0 [115, 116, 101, 112, 32, 109, 101, 97, 115, 117] (M.2.1))))))))), M.2.2)) hC e1 e2 ?_
  refine lt_10 (N := (M.1, nB (N.1.2.2 : Int) 90 [117, 110, 116, 101, 114, 32, 109, 101, 97, 110] (nB (N.1.2.2 : Int) 80 [32, 97, 109, 111, 117, 110, 116, 32, 99, 111] (nB (N.1.2.2 : Int) 70 [115, 104, 111, 119, 32, 103, 97, 117, 103, 101] (nB (N.1.2.2 : Int) 60 [97, 115, 111, 110, 32, 98, 97, 110, 100, 32] (nB (N.1.2.2 : Int) 50 [111, 114, 101, 99, 97, 115, 116, 32, 115, 101] (nB (N.1.2.2 : Int) 40 [98, 121, 32, 115, 104, 97, 114, 101, 32, 102] (nB (N.1.2.2 : Int) 30 [116, 32, 97, 114, 99, 104, 105, 118, 101, 32] (nB (N.1.2.2 : Int) 20 [32, 108, 101, 97, 115, 116, 32, 109, 111, 115] (nB (N.1.2.2 : Int) 10 [114, 101, 32, 115, 105, 108, 101, 110, 99, 101] (nB (N.1.2.2 : Int) 0 [115, 116, 101, 112, 32, 109, 101, 97, 115, 117] (M.2.1)))))))))), M.2.2)) hC e1 e2 ?_
  refine lt_11 (N := (M.1, nB (N.1.2.2 : Int) 100 [32, 108, 97, 116, 101, 115, 116, 32, 111, 114] (nB (N.1.2.2 : Int) 90 [117, 110, 116, 101, 114, 32, 109, 101, 97, 110] (nB (N.1.2.2 : Int) 80 [32, 97, 109, 111, 117, 110, 116, 32, 99, 111] (nB (N.1.2.2 : Int) 70 [115, 104, 111, 119, 32, 103, 97, 117, 103, 101] (nB (N.1.2.2 : Int) 60 [97, 115, 111, 110, 32, 98, 97, 110, 100, 32] (nB (N.1.2.2 : Int) 50 [111, 114, 101, 99, 97, 115, 116, 32, 115, 101] (nB (N.1.2.2 : Int) 40 [98, 121, 32, 115, 104, 97, 114, 101, 32, 102] (nB (N.1.2.2 : Int) 30 [116, 32, 97, 114, 99, 104, 105, 118, 101, 32] (nB (N.1.2.2 : Int) 20 [32, 108, 101, 97, 115, 116, 32, 109, 111, 115] (nB (N.1.2.2 : Int) 10 [114, 101, 32, 115, 105, 108, 101, 110, 99, 101] (nB (N.1.2.2 : Int) 0 [115, 116, 101, 112, 32, 109, 101, 97, 115, 117] (M.2.1))))))))))), M.2.2)) hC e1 e2 ?_
  exact wn_put (N := (M.1, nLet (N.1.2.2 : Int) M.2.1, M.2.2)) ci_12 (k := 41) (by decide) kf_X12_101 (.inr rfl) hC hI2 dX12_init_895 hx rfl (by show (-1 : Int) ≤ _; omega) ((fun z => qfit_arr _ z) _) (hk _ (.head _))
def sX12_init : NT :=
 (nSeq nSuper
 (nSeq (nFA 12 0 41 1095)
 (nSeq (nFA 12 1 40 2)
 (nSeq (nFA 12 2 40 2)
 (nSeq (nFA 12 3 40 2)
 (nSeq (nFA 12 4 40 2)
 (nSeq (nFA 12 5 40 2)
 (nSeq (nFA 12 6 40 2)
 (nSeq (nFA 12 7 40 8)
 (nSeq (nFA 12 8 40 8)
 (nSeq (nFA 12 9 40 8)
 (nSeq (nFA 12 10 40 8)
 (nSeq (nFA 12 11 40 8)
 (nSeq (nFA 12 12 40 8)
 (nSeq (nFA 12 13 40 8)
 (nSeq (nFA 12 14 40 8)
 (nSeq (nFA 12 15 40 8)
 (nSeq (nFA 12 16 40 8)
 (nSeq (nFA 12 17 44 8)
 (nSeq (nFA 12 18 40 8)
 (nSeq (nFA 12 19 40 8)
 (nSeq (nFA 12 20 40 8)
 (nSeq (nFA 12 21 40 8)
 (nSeq (nFA 12 22 40 8)
 (nSeq (nFA 12 23 40 200)
 (nSeq (nFA 12 24 40 8)
 (nSeq (nFA 12 25 40 8)
 (nSeq (nFA 12 26 40 8)
 (nSeq (nFA 12 29 42 1000)
 (nSeq (nLift (sPut 12 40 (eV 0) (eI (-1))))
 (nSeq nFB
 (nSeq (nFA 12 42 40 8)
 (nSeq (nFA 12 43 40 64)
 (nSeq (nFA 12 46 40 4)
 (nSeq (nFA 12 52 41 64)
 (nSeq (nFA 12 53 41 4)
 (nSeq (nFA 12 54 41 1095)
 (nSeq (nFA 12 55 41 14235)
 (nSeq (nFA 12 56 41 2190)
 (nSeq (nFA 12 57 44 2)
 (nSeq (nLift (sDo (eCallV 12 mX12_clearBank [(eV 0), (eI 0)])))
 (nLift (sDo (eCallV 12 mX12_startAnew [(eV 0)]))))))))))))))))))))))))))))))))))))))))))))
set_option maxRecDepth 100000 in
theorem oX12_init : OkN YX12_init [(0, 2)] [(0, 2)] 0 [979] sX12_init := by
  unfold sX12_init
  exact (okN_seq (p1 := 4) (Γ1 := [(0, 2)]) (okN_super (p0 := 1) (ok_aload_n dX12_init_0 (.head _) rfl (.head _)) km_X12_1 (Nat.le_of_ble_eq_true rfl) (Nat.le_of_ble_eq_true rfl) dX12_init_1 (.head _))
 (okN_seq (p1 := 13) (Γ1 := [(0, 2)]) (okN_FA (p0 := 5) (p1 := 8) (k := 0) (ok_aload_n dX12_init_4 (.head _) rfl (.head _)) (ok_sipush dX12_init_5 (.head _) ⟨by decide, by decide⟩) ak_41 ka_arrayClass_6_183 (by decide) (by decide) (Nat.le_of_ble_eq_true rfl) dX12_init_8 ci_12 (by decide) kf_X12_7 (.inr rfl) rfl (fun z => qfit_arr _ z) dX12_init_10 (.head _))
 (okN_seq (p1 := 20) (Γ1 := [(0, 2)]) (okN_FA (p0 := 14) (p1 := 15) (k := 1) (ok_aload_n dX12_init_13 (.head _) rfl (.head _)) (ok_iconst dX12_init_14 (.head _) (irn (by decide) (by decide))) ak_40 ka_arrayClass_1_59 (by decide) (by decide) (Nat.le_of_ble_eq_true rfl) dX12_init_15 ci_12 (by decide) kf_X12_13 (.inr rfl) rfl (fun z => qfit_arr _ z) dX12_init_17 (.head _))
 (okN_seq (p1 := 27) (Γ1 := [(0, 2)]) (okN_FA (p0 := 21) (p1 := 22) (k := 2) (ok_aload_n dX12_init_20 (.head _) rfl (.head _)) (ok_iconst dX12_init_21 (.head _) (irn (by decide) (by decide))) ak_40 ka_arrayClass_1_59 (by decide) (by decide) (Nat.le_of_ble_eq_true rfl) dX12_init_22 ci_12 (by decide) kf_X12_17 (.inr rfl) rfl (fun z => qfit_arr _ z) dX12_init_24 (.head _))
 (okN_seq (p1 := 34) (Γ1 := [(0, 2)]) (okN_FA (p0 := 28) (p1 := 29) (k := 3) (ok_aload_n dX12_init_27 (.head _) rfl (.head _)) (ok_iconst dX12_init_28 (.head _) (irn (by decide) (by decide))) ak_40 ka_arrayClass_1_59 (by decide) (by decide) (Nat.le_of_ble_eq_true rfl) dX12_init_29 ci_12 (by decide) kf_X12_20 (.inr rfl) rfl (fun z => qfit_arr _ z) dX12_init_31 (.head _))
 (okN_seq (p1 := 41) (Γ1 := [(0, 2)]) (okN_FA (p0 := 35) (p1 := 36) (k := 4) (ok_aload_n dX12_init_34 (.head _) rfl (.head _)) (ok_iconst dX12_init_35 (.head _) (irn (by decide) (by decide))) ak_40 ka_arrayClass_1_59 (by decide) (by decide) (Nat.le_of_ble_eq_true rfl) dX12_init_36 ci_12 (by decide) kf_X12_23 (.inr rfl) rfl (fun z => qfit_arr _ z) dX12_init_38 (.head _))
 (okN_seq (p1 := 48) (Γ1 := [(0, 2)]) (okN_FA (p0 := 42) (p1 := 43) (k := 5) (ok_aload_n dX12_init_41 (.head _) rfl (.head _)) (ok_iconst dX12_init_42 (.head _) (irn (by decide) (by decide))) ak_40 ka_arrayClass_1_59 (by decide) (by decide) (Nat.le_of_ble_eq_true rfl) dX12_init_43 ci_12 (by decide) kf_X12_26 (.inr rfl) rfl (fun z => qfit_arr _ z) dX12_init_45 (.head _))
 (okN_seq (p1 := 55) (Γ1 := [(0, 2)]) (okN_FA (p0 := 49) (p1 := 50) (k := 6) (ok_aload_n dX12_init_48 (.head _) rfl (.head _)) (ok_iconst dX12_init_49 (.head _) (irn (by decide) (by decide))) ak_40 ka_arrayClass_1_59 (by decide) (by decide) (Nat.le_of_ble_eq_true rfl) dX12_init_50 ci_12 (by decide) kf_X12_29 (.inr rfl) rfl (fun z => qfit_arr _ z) dX12_init_52 (.head _))
 (okN_seq (p1 := 63) (Γ1 := [(0, 2)]) (okN_FA (p0 := 56) (p1 := 58) (k := 7) (ok_aload_n dX12_init_55 (.head _) rfl (.head _)) (ok_bipush dX12_init_56 (.head _) (irn4 (by decide) (by decide))) ak_40 ka_arrayClass_1_59 (by decide) (by decide) (Nat.le_of_ble_eq_true rfl) dX12_init_58 ci_12 (by decide) kf_X12_32 (.inr rfl) rfl (fun z => qfit_arr _ z) dX12_init_60 (.head _))
 (okN_seq (p1 := 71) (Γ1 := [(0, 2)]) (okN_FA (p0 := 64) (p1 := 66) (k := 8) (ok_aload_n dX12_init_63 (.head _) rfl (.head _)) (ok_bipush dX12_init_64 (.head _) (irn4 (by decide) (by decide))) ak_40 ka_arrayClass_1_59 (by decide) (by decide) (Nat.le_of_ble_eq_true rfl) dX12_init_66 ci_12 (by decide) kf_X12_35 (.inr rfl) rfl (fun z => qfit_arr _ z) dX12_init_68 (.head _))
 (okN_seq (p1 := 79) (Γ1 := [(0, 2)]) (okN_FA (p0 := 72) (p1 := 74) (k := 9) (ok_aload_n dX12_init_71 (.head _) rfl (.head _)) (ok_bipush dX12_init_72 (.head _) (irn4 (by decide) (by decide))) ak_40 ka_arrayClass_1_59 (by decide) (by decide) (Nat.le_of_ble_eq_true rfl) dX12_init_74 ci_12 (by decide) kf_X12_38 (.inr rfl) rfl (fun z => qfit_arr _ z) dX12_init_76 (.head _))
 (okN_seq (p1 := 87) (Γ1 := [(0, 2)]) (okN_FA (p0 := 80) (p1 := 82) (k := 10) (ok_aload_n dX12_init_79 (.head _) rfl (.head _)) (ok_bipush dX12_init_80 (.head _) (irn4 (by decide) (by decide))) ak_40 ka_arrayClass_1_59 (by decide) (by decide) (Nat.le_of_ble_eq_true rfl) dX12_init_82 ci_12 (by decide) kf_X12_41 (.inr rfl) rfl (fun z => qfit_arr _ z) dX12_init_84 (.head _))
 (okN_seq (p1 := 95) (Γ1 := [(0, 2)]) (okN_FA (p0 := 88) (p1 := 90) (k := 11) (ok_aload_n dX12_init_87 (.head _) rfl (.head _)) (ok_bipush dX12_init_88 (.head _) (irn4 (by decide) (by decide))) ak_40 ka_arrayClass_1_59 (by decide) (by decide) (Nat.le_of_ble_eq_true rfl) dX12_init_90 ci_12 (by decide) kf_X12_44 (.inr rfl) rfl (fun z => qfit_arr _ z) dX12_init_92 (.head _))
 (okN_seq (p1 := 103) (Γ1 := [(0, 2)]) (okN_FA (p0 := 96) (p1 := 98) (k := 12) (ok_aload_n dX12_init_95 (.head _) rfl (.head _)) (ok_bipush dX12_init_96 (.head _) (irn4 (by decide) (by decide))) ak_40 ka_arrayClass_1_59 (by decide) (by decide) (Nat.le_of_ble_eq_true rfl) dX12_init_98 ci_12 (by decide) kf_X12_47 (.inr rfl) rfl (fun z => qfit_arr _ z) dX12_init_100 (.head _))
 (okN_seq (p1 := 111) (Γ1 := [(0, 2)]) (okN_FA (p0 := 104) (p1 := 106) (k := 13) (ok_aload_n dX12_init_103 (.head _) rfl (.head _)) (ok_bipush dX12_init_104 (.head _) (irn4 (by decide) (by decide))) ak_40 ka_arrayClass_1_59 (by decide) (by decide) (Nat.le_of_ble_eq_true rfl) dX12_init_106 ci_12 (by decide) kf_X12_50 (.inr rfl) rfl (fun z => qfit_arr _ z) dX12_init_108 (.head _))
 (okN_seq (p1 := 119) (Γ1 := [(0, 2)]) (okN_FA (p0 := 112) (p1 := 114) (k := 14) (ok_aload_n dX12_init_111 (.head _) rfl (.head _)) (ok_bipush dX12_init_112 (.head _) (irn4 (by decide) (by decide))) ak_40 ka_arrayClass_1_59 (by decide) (by decide) (Nat.le_of_ble_eq_true rfl) dX12_init_114 ci_12 (by decide) kf_X12_53 (.inr rfl) rfl (fun z => qfit_arr _ z) dX12_init_116 (.head _))
 (okN_seq (p1 := 127) (Γ1 := [(0, 2)]) (okN_FA (p0 := 120) (p1 := 122) (k := 15) (ok_aload_n dX12_init_119 (.head _) rfl (.head _)) (ok_bipush dX12_init_120 (.head _) (irn4 (by decide) (by decide))) ak_40 ka_arrayClass_1_59 (by decide) (by decide) (Nat.le_of_ble_eq_true rfl) dX12_init_122 ci_12 (by decide) kf_X12_56 (.inr rfl) rfl (fun z => qfit_arr _ z) dX12_init_124 (.head _))
 (okN_seq (p1 := 135) (Γ1 := [(0, 2)]) (okN_FA (p0 := 128) (p1 := 130) (k := 16) (ok_aload_n dX12_init_127 (.head _) rfl (.head _)) (ok_bipush dX12_init_128 (.head _) (irn4 (by decide) (by decide))) ak_40 ka_arrayClass_1_59 (by decide) (by decide) (Nat.le_of_ble_eq_true rfl) dX12_init_130 ci_12 (by decide) kf_X12_59 (.inr rfl) rfl (fun z => qfit_arr _ z) dX12_init_132 (.head _))
 (okN_seq (p1 := 143) (Γ1 := [(0, 2)]) (okN_FA (p0 := 136) (p1 := 138) (k := 17) (ok_aload_n dX12_init_135 (.head _) rfl (.head _)) (ok_bipush dX12_init_136 (.head _) (irn4 (by decide) (by decide))) ak_44 ka_arrayClass_2_128 (by decide) (by decide) (Nat.le_of_ble_eq_true rfl) dX12_init_138 ci_12 (by decide) kf_X12_62 (.inr rfl) rfl (fun z => qfit_arr _ z) dX12_init_140 (.head _))
 (okN_seq (p1 := 151) (Γ1 := [(0, 2)]) (okN_FA (p0 := 144) (p1 := 146) (k := 18) (ok_aload_n dX12_init_143 (.head _) rfl (.head _)) (ok_bipush dX12_init_144 (.head _) (irn4 (by decide) (by decide))) ak_40 ka_arrayClass_1_59 (by decide) (by decide) (Nat.le_of_ble_eq_true rfl) dX12_init_146 ci_12 (by decide) kf_X12_66 (.inr rfl) rfl (fun z => qfit_arr _ z) dX12_init_148 (.head _))
 (okN_seq (p1 := 159) (Γ1 := [(0, 2)]) (okN_FA (p0 := 152) (p1 := 154) (k := 19) (ok_aload_n dX12_init_151 (.head _) rfl (.head _)) (ok_bipush dX12_init_152 (.head _) (irn4 (by decide) (by decide))) ak_40 ka_arrayClass_1_59 (by decide) (by decide) (Nat.le_of_ble_eq_true rfl) dX12_init_154 ci_12 (by decide) kf_X12_69 (.inr rfl) rfl (fun z => qfit_arr _ z) dX12_init_156 (.head _))
 (okN_seq (p1 := 167) (Γ1 := [(0, 2)]) (okN_FA (p0 := 160) (p1 := 162) (k := 20) (ok_aload_n dX12_init_159 (.head _) rfl (.head _)) (ok_bipush dX12_init_160 (.head _) (irn4 (by decide) (by decide))) ak_40 ka_arrayClass_1_59 (by decide) (by decide) (Nat.le_of_ble_eq_true rfl) dX12_init_162 ci_12 (by decide) kf_X12_72 (.inr rfl) rfl (fun z => qfit_arr _ z) dX12_init_164 (.head _))
 (okN_seq (p1 := 175) (Γ1 := [(0, 2)]) (okN_FA (p0 := 168) (p1 := 170) (k := 21) (ok_aload_n dX12_init_167 (.head _) rfl (.head _)) (ok_bipush dX12_init_168 (.head _) (irn4 (by decide) (by decide))) ak_40 ka_arrayClass_1_59 (by decide) (by decide) (Nat.le_of_ble_eq_true rfl) dX12_init_170 ci_12 (by decide) kf_X12_75 (.inr rfl) rfl (fun z => qfit_arr _ z) dX12_init_172 (.head _))
 (okN_seq (p1 := 183) (Γ1 := [(0, 2)]) (okN_FA (p0 := 176) (p1 := 178) (k := 22) (ok_aload_n dX12_init_175 (.head _) rfl (.head _)) (ok_bipush dX12_init_176 (.head _) (irn4 (by decide) (by decide))) ak_40 ka_arrayClass_1_59 (by decide) (by decide) (Nat.le_of_ble_eq_true rfl) dX12_init_178 ci_12 (by decide) kf_X12_78 (.inr rfl) rfl (fun z => qfit_arr _ z) dX12_init_180 (.head _))
 (okN_seq (p1 := 192) (Γ1 := [(0, 2)]) (okN_FA (p0 := 184) (p1 := 187) (k := 23) (ok_aload_n dX12_init_183 (.head _) rfl (.head _)) (ok_sipush dX12_init_184 (.head _) ⟨by decide, by decide⟩) ak_40 ka_arrayClass_1_59 (by decide) (by decide) (Nat.le_of_ble_eq_true rfl) dX12_init_187 ci_12 (by decide) kf_X12_81 (.inr rfl) rfl (fun z => qfit_arr _ z) dX12_init_189 (.head _))
 (okN_seq (p1 := 200) (Γ1 := [(0, 2)]) (okN_FA (p0 := 193) (p1 := 195) (k := 24) (ok_aload_n dX12_init_192 (.head _) rfl (.head _)) (ok_bipush dX12_init_193 (.head _) (irn4 (by decide) (by decide))) ak_40 ka_arrayClass_1_59 (by decide) (by decide) (Nat.le_of_ble_eq_true rfl) dX12_init_195 ci_12 (by decide) kf_X12_84 (.inr rfl) rfl (fun z => qfit_arr _ z) dX12_init_197 (.head _))
 (okN_seq (p1 := 208) (Γ1 := [(0, 2)]) (okN_FA (p0 := 201) (p1 := 203) (k := 25) (ok_aload_n dX12_init_200 (.head _) rfl (.head _)) (ok_bipush dX12_init_201 (.head _) (irn4 (by decide) (by decide))) ak_40 ka_arrayClass_1_59 (by decide) (by decide) (Nat.le_of_ble_eq_true rfl) dX12_init_203 ci_12 (by decide) kf_X12_87 (.inr rfl) rfl (fun z => qfit_arr _ z) dX12_init_205 (.head _))
 (okN_seq (p1 := 216) (Γ1 := [(0, 2)]) (okN_FA (p0 := 209) (p1 := 211) (k := 26) (ok_aload_n dX12_init_208 (.head _) rfl (.head _)) (ok_bipush dX12_init_209 (.head _) (irn4 (by decide) (by decide))) ak_40 ka_arrayClass_1_59 (by decide) (by decide) (Nat.le_of_ble_eq_true rfl) dX12_init_211 ci_12 (by decide) kf_X12_90 (.inr rfl) rfl (fun z => qfit_arr _ z) dX12_init_213 (.head _))
 (okN_seq (p1 := 225) (Γ1 := [(0, 2)]) (okN_FA (p0 := 217) (p1 := 220) (k := 29) (ok_aload_n dX12_init_216 (.head _) rfl (.head _)) (ok_sipush dX12_init_217 (.head _) ⟨by decide, by decide⟩) ak_42 ka_arrayClass_4_9 (by decide) (by decide) (Nat.le_of_ble_eq_true rfl) dX12_init_220 ci_12 (by decide) kf_X12_93 (.inr rfl) rfl (fun z => qfit_arr _ z) dX12_init_222 (.head _))
 (okN_seq (p1 := 230) (Γ1 := [(0, 2)]) (okN_lift (okPut (p1 := 226) (p2 := 227) (k := 40) (ok_aload_n dX12_init_225 (.head _) rfl (.head _)) (ok_iconst dX12_init_226 (.head _) (irn (by decide) (by decide))) rfl ci_12 (by decide) kf_X12_97 rfl (fun z _ => qfit_int z) dX12_init_227 (.head _) rfl))
 (okN_seq (p1 := 898) (Γ1 := [(0, 2)]) oFB
 (okN_seq (p1 := 906) (Γ1 := [(0, 2)]) (okN_FA (p0 := 899) (p1 := 901) (k := 42) (ok_aload_n dX12_init_898 (.head _) rfl (.head _)) (ok_bipush dX12_init_899 (.head _) (irn4 (by decide) (by decide))) ak_40 ka_arrayClass_1_59 (by decide) (by decide) (Nat.le_of_ble_eq_true rfl) dX12_init_901 ci_12 (by decide) kf_X12_104 (.inr rfl) rfl (fun z => qfit_arr _ z) dX12_init_903 (.head _))
 (okN_seq (p1 := 914) (Γ1 := [(0, 2)]) (okN_FA (p0 := 907) (p1 := 909) (k := 43) (ok_aload_n dX12_init_906 (.head _) rfl (.head _)) (ok_bipush dX12_init_907 (.head _) (irn4 (by decide) (by decide))) ak_40 ka_arrayClass_1_59 (by decide) (by decide) (Nat.le_of_ble_eq_true rfl) dX12_init_909 ci_12 (by decide) kf_X12_107 (.inr rfl) rfl (fun z => qfit_arr _ z) dX12_init_911 (.head _))
 (okN_seq (p1 := 921) (Γ1 := [(0, 2)]) (okN_FA (p0 := 915) (p1 := 916) (k := 46) (ok_aload_n dX12_init_914 (.head _) rfl (.head _)) (ok_iconst dX12_init_915 (.head _) (irn (by decide) (by decide))) ak_40 ka_arrayClass_1_59 (by decide) (by decide) (Nat.le_of_ble_eq_true rfl) dX12_init_916 ci_12 (by decide) kf_X12_110 (.inr rfl) rfl (fun z => qfit_arr _ z) dX12_init_918 (.head _))
 (okN_seq (p1 := 929) (Γ1 := [(0, 2)]) (okN_FA (p0 := 922) (p1 := 924) (k := 52) (ok_aload_n dX12_init_921 (.head _) rfl (.head _)) (ok_bipush dX12_init_922 (.head _) (irn4 (by decide) (by decide))) ak_41 ka_arrayClass_6_183 (by decide) (by decide) (Nat.le_of_ble_eq_true rfl) dX12_init_924 ci_12 (by decide) kf_X12_113 (.inr rfl) rfl (fun z => qfit_arr _ z) dX12_init_926 (.head _))
 (okN_seq (p1 := 936) (Γ1 := [(0, 2)]) (okN_FA (p0 := 930) (p1 := 931) (k := 53) (ok_aload_n dX12_init_929 (.head _) rfl (.head _)) (ok_iconst dX12_init_930 (.head _) (irn (by decide) (by decide))) ak_41 ka_arrayClass_6_183 (by decide) (by decide) (Nat.le_of_ble_eq_true rfl) dX12_init_931 ci_12 (by decide) kf_X12_116 (.inr rfl) rfl (fun z => qfit_arr _ z) dX12_init_933 (.head _))
 (okN_seq (p1 := 945) (Γ1 := [(0, 2)]) (okN_FA (p0 := 937) (p1 := 940) (k := 54) (ok_aload_n dX12_init_936 (.head _) rfl (.head _)) (ok_sipush dX12_init_937 (.head _) ⟨by decide, by decide⟩) ak_41 ka_arrayClass_6_183 (by decide) (by decide) (Nat.le_of_ble_eq_true rfl) dX12_init_940 ci_12 (by decide) kf_X12_119 (.inr rfl) rfl (fun z => qfit_arr _ z) dX12_init_942 (.head _))
 (okN_seq (p1 := 954) (Γ1 := [(0, 2)]) (okN_FA (p0 := 946) (p1 := 949) (k := 55) (ok_aload_n dX12_init_945 (.head _) rfl (.head _)) (ok_sipush dX12_init_946 (.head _) ⟨by decide, by decide⟩) ak_41 ka_arrayClass_6_183 (by decide) (by decide) (Nat.le_of_ble_eq_true rfl) dX12_init_949 ci_12 (by decide) kf_X12_122 (.inr rfl) rfl (fun z => qfit_arr _ z) dX12_init_951 (.head _))
 (okN_seq (p1 := 963) (Γ1 := [(0, 2)]) (okN_FA (p0 := 955) (p1 := 958) (k := 56) (ok_aload_n dX12_init_954 (.head _) rfl (.head _)) (ok_sipush dX12_init_955 (.head _) ⟨by decide, by decide⟩) ak_41 ka_arrayClass_6_183 (by decide) (by decide) (Nat.le_of_ble_eq_true rfl) dX12_init_958 ci_12 (by decide) kf_X12_125 (.inr rfl) rfl (fun z => qfit_arr _ z) dX12_init_960 (.head _))
 (okN_seq (p1 := 970) (Γ1 := [(0, 2)]) (okN_FA (p0 := 964) (p1 := 965) (k := 57) (ok_aload_n dX12_init_963 (.head _) rfl (.head _)) (ok_iconst dX12_init_964 (.head _) (irn (by decide) (by decide))) ak_44 ka_arrayClass_2_128 (by decide) (by decide) (Nat.le_of_ble_eq_true rfl) dX12_init_965 ci_12 (by decide) kf_X12_128 (.inr rfl) rfl (fun z => qfit_arr _ z) dX12_init_967 (.head _))
 (okN_seq (p1 := 975) (Γ1 := [(0, 2)]) (okN_lift (okDoV (p1 := 972) (okCons (p1 := 971) (ok_aload_n dX12_init_970 (.head _) rfl (.head _)) (okCons (p1 := 972) (ok_iconst dX12_init_971 (.head _) (irn (by decide) (by decide))) okNil)) MX12_clearBank cf_X12_clearBank ci_12 rfl kc_X12_clearBank km_X12_131 ki_X12_clearBank kv_X12_clearBank kn_X12 (Nat.le_of_ble_eq_true rfl) (Nat.le_of_ble_eq_true rfl) dX12_init_972 (.head _) rfl))
 (okN_lift (okDoV (p1 := 976) (okCons (p1 := 976) (ok_aload_n dX12_init_975 (.head _) rfl (.head _)) okNil) MX12_startAnew cf_X12_startAnew ci_12 rfl kc_X12_startAnew km_X12_135 ki_X12_startAnew kv_X12_startAnew kn_X12 (Nat.le_of_ble_eq_true rfl) (Nat.le_of_ble_eq_true rfl) dX12_init_976 (.head _) rfl)))))))))))))))))))))))))))))))))))))))))))
def mX12_init : NM := nM sX12_init
theorem MX12_init : MetN YX12_init yX12_init 38 20236 mX12_init := metN_of rfl rfl (by decide +kernel) (by decide) dX12_init_979 oX12_init
