/-! THE CONSTRUCTORS (laid by wip/whole/gen/gen4.py) -/
theorem nAl_len {κ m : Nat} {n : Int} {d : Int → Int} {N M : QN} (h : nAl κ n m d N = some M) : M.1.2.1 (N.1.2.2 : Int) = n := by
  unfold nAl at h
  split at h
  · cases h; exact if_pos rfl
  · cases h
theorem okN_end {Y : YT} {Γ Γ' : List (Nat × Nat)} {pc p1 tg : Nat} {E : List Nat} {off : Int} {s : NT} (h : OkN Y Γ Γ' pc [p1] s) (hd : decode Y.2.1 p1 = .ok (.goto off, 3)) (ht : (p1 : Int) + off = (tg : Int)) (hE : tg ∈ E) : OkN Y Γ Γ' pc E s := by
  intro Z hC hI L N r hf hk
  refine h Z hC hI L N r hf (fun t h1 => ?_)
  rw [List.mem_singleton.mp h1]
  intro k u hk1 hu1
  have hk := hk tg hE k u hk1 hu1
  obtain ⟨p, l, ee, R, s, m, args, below, meth, c, D, cy, A, H0, Q, cells, slots⟩ := Z
  obtain ⟨hx, hb, -⟩ := hC
  intro H locs ls q1 q2 q3
  exact lv_goto hx hb hd ht (hk H locs ls q1 q2 q3)
abbrev YX10_init : YT := (RX10, cX10_init, 1, 1, 12, 9)
theorem cf_X10_init : CF yX10_init 0 := ⟨by decide +kernel, by decide +kernel, by decide +kernel⟩
def sX10_init : NT :=
 (nSeq nSuper
 (nSeq (nFA 10 0 23 1000)
 (nSeq (nFA 10 2 20 1000)
 (nSeq (nFA 10 3 20 1000)
 (nFA 10 4 20 1000)))))
set_option maxRecDepth 100000 in
theorem oX10_init : OkN YX10_init [(0, 2)] [(0, 2)] 0 [40] sX10_init := by
  unfold sX10_init
  exact (okN_seq (p1 := 4) (Γ1 := [(0, 2)]) (okN_super (p0 := 1) (ok_aload_n dX10_init_0 (.head _) rfl (.head _)) km_X10_3 (Nat.le_of_ble_eq_true rfl) (Nat.le_of_ble_eq_true rfl) dX10_init_1 (.head _))
 (okN_seq (p1 := 13) (Γ1 := [(0, 2)]) (okN_FA (p0 := 5) (p1 := 8) (k := 0) (ok_aload_n dX10_init_4 (.head _) rfl (.head _)) (ok_sipush dX10_init_5 (.head _) ⟨by decide, by decide⟩) ak_23 ka_arrayClass_1_54 (by decide) (by decide) (Nat.le_of_ble_eq_true rfl) dX10_init_8 ci_10 (by decide) kf_X10_9 (.inr rfl) rfl (fun z => qfit_arr _ z) dX10_init_10 (.head _))
 (okN_seq (p1 := 22) (Γ1 := [(0, 2)]) (okN_FA (p0 := 14) (p1 := 17) (k := 2) (ok_aload_n dX10_init_13 (.head _) rfl (.head _)) (ok_sipush dX10_init_14 (.head _) ⟨by decide, by decide⟩) ak_20 ka_arrayClass_1_55 (by decide) (by decide) (Nat.le_of_ble_eq_true rfl) dX10_init_17 ci_10 (by decide) kf_X10_15 (.inr rfl) rfl (fun z => qfit_arr _ z) dX10_init_19 (.head _))
 (okN_seq (p1 := 31) (Γ1 := [(0, 2)]) (okN_FA (p0 := 23) (p1 := 26) (k := 3) (ok_aload_n dX10_init_22 (.head _) rfl (.head _)) (ok_sipush dX10_init_23 (.head _) ⟨by decide, by decide⟩) ak_20 ka_arrayClass_1_55 (by decide) (by decide) (Nat.le_of_ble_eq_true rfl) dX10_init_26 ci_10 (by decide) kf_X10_19 (.inr rfl) rfl (fun z => qfit_arr _ z) dX10_init_28 (.head _))
 (okN_FA (p0 := 32) (p1 := 35) (k := 4) (ok_aload_n dX10_init_31 (.head _) rfl (.head _)) (ok_sipush dX10_init_32 (.head _) ⟨by decide, by decide⟩) ak_20 ka_arrayClass_1_55 (by decide) (by decide) (Nat.le_of_ble_eq_true rfl) dX10_init_35 ci_10 (by decide) kf_X10_22 (.inr rfl) rfl (fun z => qfit_arr _ z) dX10_init_37 (.head _))))))
def mX10_init : NM := nM sX10_init
theorem MX10_init : MetN YX10_init yX10_init 4 4000 mX10_init := metN_of rfl rfl (by decide +kernel) (by decide) dX10_init_40 oX10_init

abbrev YX5_init : YT := (RX5, cX5_init, 1, 1, 12, 9)
theorem cf_X5_init : CF yX5_init 0 := ⟨by decide +kernel, by decide +kernel, by decide +kernel⟩
def sX5_init : NT :=
 (nSeq nSuper
 (nSeq (nFA 5 5 20 8)
 (nSeq (nFA 5 6 20 8)
 (nFA 5 8 20 60))))
set_option maxRecDepth 100000 in
theorem oX5_init : OkN YX5_init [(0, 2)] [(0, 2)] 0 [28] sX5_init := by
  unfold sX5_init
  exact (okN_seq (p1 := 4) (Γ1 := [(0, 2)]) (okN_super (p0 := 1) (ok_aload_n dX5_init_0 (.head _) rfl (.head _)) km_X5_3 (Nat.le_of_ble_eq_true rfl) (Nat.le_of_ble_eq_true rfl) dX5_init_1 (.head _))
 (okN_seq (p1 := 12) (Γ1 := [(0, 2)]) (okN_FA (p0 := 5) (p1 := 7) (k := 5) (ok_aload_n dX5_init_4 (.head _) rfl (.head _)) (ok_bipush dX5_init_5 (.head _) (irn4 (by decide) (by decide))) ak_20 ka_arrayClass_1_55 (by decide) (by decide) (Nat.le_of_ble_eq_true rfl) dX5_init_7 ci_5 (by decide) kf_X5_11 (.inr rfl) rfl (fun z => qfit_arr _ z) dX5_init_9 (.head _))
 (okN_seq (p1 := 20) (Γ1 := [(0, 2)]) (okN_FA (p0 := 13) (p1 := 15) (k := 6) (ok_aload_n dX5_init_12 (.head _) rfl (.head _)) (ok_bipush dX5_init_13 (.head _) (irn4 (by decide) (by decide))) ak_20 ka_arrayClass_1_55 (by decide) (by decide) (Nat.le_of_ble_eq_true rfl) dX5_init_15 ci_5 (by decide) kf_X5_15 (.inr rfl) rfl (fun z => qfit_arr _ z) dX5_init_17 (.head _))
 (okN_FA (p0 := 21) (p1 := 23) (k := 8) (ok_aload_n dX5_init_20 (.head _) rfl (.head _)) (ok_bipush dX5_init_21 (.head _) (irn4 (by decide) (by decide))) ak_20 ka_arrayClass_1_55 (by decide) (by decide) (Nat.le_of_ble_eq_true rfl) dX5_init_23 ci_5 (by decide) kf_X5_18 (.inr rfl) rfl (fun z => qfit_arr _ z) dX5_init_25 (.head _)))))
def mX5_init : NM := nM sX5_init
theorem MX5_init : MetN YX5_init yX5_init 3 76 mX5_init := metN_of rfl rfl (by decide +kernel) (by decide) dX5_init_28 oX5_init

abbrev YX1_init : YT := (RX1, cX1_init, 1, 1, 12, 9)
theorem cf_X1_init : CF yX1_init 0 := ⟨by decide +kernel, by decide +kernel, by decide +kernel⟩
def sX1_init : NT :=
 (nSeq nSuper
 (nSeq (nFA 1 3 20 60)
 (nSeq (nFA 1 4 20 60)
 (nSeq (nFA 1 5 20 4)
 (nSeq (nFA 1 6 20 4)
 (nFA 1 7 20 30))))))
set_option maxRecDepth 100000 in
theorem oX1_init : OkN YX1_init [(0, 2)] [(0, 2)] 0 [42] sX1_init := by
  unfold sX1_init
  exact (okN_seq (p1 := 4) (Γ1 := [(0, 2)]) (okN_super (p0 := 1) (ok_aload_n dX1_init_0 (.head _) rfl (.head _)) km_X1_3 (Nat.le_of_ble_eq_true rfl) (Nat.le_of_ble_eq_true rfl) dX1_init_1 (.head _))
 (okN_seq (p1 := 12) (Γ1 := [(0, 2)]) (okN_FA (p0 := 5) (p1 := 7) (k := 3) (ok_aload_n dX1_init_4 (.head _) rfl (.head _)) (ok_bipush dX1_init_5 (.head _) (irn4 (by decide) (by decide))) ak_20 ka_arrayClass_1_55 (by decide) (by decide) (Nat.le_of_ble_eq_true rfl) dX1_init_7 ci_1 (by decide) kf_X1_9 (.inr rfl) rfl (fun z => qfit_arr _ z) dX1_init_9 (.head _))
 (okN_seq (p1 := 20) (Γ1 := [(0, 2)]) (okN_FA (p0 := 13) (p1 := 15) (k := 4) (ok_aload_n dX1_init_12 (.head _) rfl (.head _)) (ok_bipush dX1_init_13 (.head _) (irn4 (by decide) (by decide))) ak_20 ka_arrayClass_1_55 (by decide) (by decide) (Nat.le_of_ble_eq_true rfl) dX1_init_15 ci_1 (by decide) kf_X1_15 (.inr rfl) rfl (fun z => qfit_arr _ z) dX1_init_17 (.head _))
 (okN_seq (p1 := 27) (Γ1 := [(0, 2)]) (okN_FA (p0 := 21) (p1 := 22) (k := 5) (ok_aload_n dX1_init_20 (.head _) rfl (.head _)) (ok_iconst dX1_init_21 (.head _) (irn (by decide) (by decide))) ak_20 ka_arrayClass_1_55 (by decide) (by decide) (Nat.le_of_ble_eq_true rfl) dX1_init_22 ci_1 (by decide) kf_X1_18 (.inr rfl) rfl (fun z => qfit_arr _ z) dX1_init_24 (.head _))
 (okN_seq (p1 := 34) (Γ1 := [(0, 2)]) (okN_FA (p0 := 28) (p1 := 29) (k := 6) (ok_aload_n dX1_init_27 (.head _) rfl (.head _)) (ok_iconst dX1_init_28 (.head _) (irn (by decide) (by decide))) ak_20 ka_arrayClass_1_55 (by decide) (by decide) (Nat.le_of_ble_eq_true rfl) dX1_init_29 ci_1 (by decide) kf_X1_21 (.inr rfl) rfl (fun z => qfit_arr _ z) dX1_init_31 (.head _))
 (okN_FA (p0 := 35) (p1 := 37) (k := 7) (ok_aload_n dX1_init_34 (.head _) rfl (.head _)) (ok_bipush dX1_init_35 (.head _) (irn4 (by decide) (by decide))) ak_20 ka_arrayClass_1_55 (by decide) (by decide) (Nat.le_of_ble_eq_true rfl) dX1_init_37 ci_1 (by decide) kf_X1_24 (.inr rfl) rfl (fun z => qfit_arr _ z) dX1_init_39 (.head _)))))))
def mX1_init : NM := nM sX1_init
theorem MX1_init : MetN YX1_init yX1_init 5 158 mX1_init := metN_of rfl rfl (by decide +kernel) (by decide) dX1_init_42 oX1_init

abbrev YX2_init : YT := (RX2, cX2_init, 1, 1, 12, 9)
theorem cf_X2_init : CF yX2_init 0 := ⟨by decide +kernel, by decide +kernel, by decide +kernel⟩
def sX2_init : NT :=
 nSuper
set_option maxRecDepth 100000 in
theorem oX2_init : OkN YX2_init [(0, 2)] [(0, 2)] 0 [4] sX2_init := by
  unfold sX2_init
  exact (okN_super (p0 := 1) (ok_aload_n dX2_init_0 (.head _) rfl (.head _)) km_X2_3 (Nat.le_of_ble_eq_true rfl) (Nat.le_of_ble_eq_true rfl) dX2_init_1 (.head _))
def mX2_init : NM := nM sX2_init
theorem MX2_init : MetN YX2_init yX2_init 0 0 mX2_init := metN_of rfl rfl (by decide +kernel) (by decide) dX2_init_4 oX2_init

abbrev YX0_init : YT := (RX0, cX0_init, 1, 1, 12, 9)
theorem cf_X0_init : CF yX0_init 0 := ⟨by decide +kernel, by decide +kernel, by decide +kernel⟩
def sX0_init : NT :=
 (nSeq nSuper
 (nSeq (nLift (sPut 0 1 (eV 0) (eI 1)))
 (nLift (sPut 0 2 (eV 0) (eI 1)))))
set_option maxRecDepth 100000 in
theorem oX0_init : OkN YX0_init [(0, 2)] [(0, 2)] 0 [14] sX0_init := by
  unfold sX0_init
  exact (okN_seq (p1 := 4) (Γ1 := [(0, 2)]) (okN_super (p0 := 1) (ok_aload_n dX0_init_0 (.head _) rfl (.head _)) km_X0_1 (Nat.le_of_ble_eq_true rfl) (Nat.le_of_ble_eq_true rfl) dX0_init_1 (.head _))
 (okN_seq (p1 := 9) (Γ1 := [(0, 2)]) (okN_lift (okPut (p1 := 5) (p2 := 6) (k := 1) (ok_aload_n dX0_init_4 (.head _) rfl (.head _)) (ok_iconst dX0_init_5 (.head _) (irn (by decide) (by decide))) rfl ci_0 (by decide) kf_X0_7 rfl (fun z _ => qfit_int z) dX0_init_6 (.head _) rfl))
 (okN_lift (okPut (p1 := 10) (p2 := 11) (k := 2) (ok_aload_n dX0_init_9 (.head _) rfl (.head _)) (ok_iconst dX0_init_10 (.head _) (irn (by decide) (by decide))) rfl ci_0 (by decide) kf_X0_13 rfl (fun z _ => qfit_int z) dX0_init_11 (.head _) rfl))))
def mX0_init : NM := nM sX0_init
theorem MX0_init : MetN YX0_init yX0_init 0 0 mX0_init := metN_of rfl rfl (by decide +kernel) (by decide) dX0_init_14 oX0_init

abbrev YX6_init : YT := (RX6, cX6_init, 2, 2, 32, 9)
theorem cf_X6_init : CF yX6_init 0 := ⟨by decide +kernel, by decide +kernel, by decide +kernel⟩
def nbX6_init_1 : NT :=
 (nSeq (nAO 32 (eF 6 3 (eV 0)) (eV 1) 2 11 mX2_init 0 0)
 (nLift (sInc 1 1)))
set_option maxRecDepth 100000 in
theorem onbX6_init_1 : OkN YX6_init [(0, 2), (1, 0)] [(0, 2), (1, 0)] 43 [38] nbX6_init_1 := by
  unfold nbX6_init_1
  exact okN_end (p1 := 59) (tg := 38) (okN_seq (p1 := 56) (Γ1 := [(0, 2), (1, 0)]) (okN_AO (p0 := 47) (p1 := 48) (κ := 32) (okF (p1 := 44) (k := 3) (ok_aload_n dX6_init_43 (.head _) rfl (.head _)) ci_6 (by decide) kf_X6_17 dX6_init_44 (.head _) rfl rfl) (ok_iload_n dX6_init_47 (.head _) rfl (.tail _ (.head _)) t_0) ⟨⟨_, _, ci_2, by decide +kernel⟩, kl_X6_15, kz_X2, kn_X2, MX2_init, cf_X2_init, kc_X2_init, (.inr ⟨_, List.mem_of_getElem? (i := 3) rfl⟩), ki_X2_init, rfl, (Nat.le_of_ble_eq_true rfl), (Nat.le_of_ble_eq_true rfl)⟩ (by decide) rfl rfl dX6_init_48 dX6_init_51 dX6_init_52 dX6_init_55 (.head _))
 (okN_lift (okInc (.tail _ (.head _)) dX6_init_56 (by decide) (.head _) (by decide)))) dX6_init_59 rfl (.head _)
def nbX6_init_2 : NT :=
 (nSeq (nAO 30 (eF 6 4 (eV 0)) (eV 1) 0 4 mX0_init 0 0)
 (nLift (sInc 1 1)))
set_option maxRecDepth 100000 in
theorem onbX6_init_2 : OkN YX6_init [(0, 2), (1, 0)] [(0, 2), (1, 0)] 69 [64] nbX6_init_2 := by
  unfold nbX6_init_2
  exact okN_end (p1 := 85) (tg := 64) (okN_seq (p1 := 82) (Γ1 := [(0, 2), (1, 0)]) (okN_AO (p0 := 73) (p1 := 74) (κ := 30) (okF (p1 := 70) (k := 4) (ok_aload_n dX6_init_69 (.head _) rfl (.head _)) ci_6 (by decide) kf_X6_23 dX6_init_70 (.head _) rfl rfl) (ok_iload_n dX6_init_73 (.head _) rfl (.tail _ (.head _)) t_0) ⟨⟨_, _, ci_0, by decide +kernel⟩, kl_X6_21, kz_X0, kn_X0, MX0_init, cf_X0_init, kc_X0_init, (.inr ⟨_, List.mem_of_getElem? (i := 4) rfl⟩), ki_X0_init, rfl, (Nat.le_of_ble_eq_true rfl), (Nat.le_of_ble_eq_true rfl)⟩ (by decide) rfl rfl dX6_init_74 dX6_init_77 dX6_init_78 dX6_init_81 (.head _))
 (okN_lift (okInc (.tail _ (.head _)) dX6_init_82 (by decide) (.head _) (by decide)))) dX6_init_85 rfl (.head _)
def sX6_init : NT :=
 (nSeq nSuper
 (nSeq (nLift (sPut 6 0 (eV 0) (eI 1)))
 (nSeq (nFA 6 3 32 4)
 (nSeq (nFA 6 4 30 4)
 (nSeq (nFO 6 5 1 9 mX1_init 5 158)
 (nSeq (nLift (sSet 1 (eI 0)))
 (nSeq (nWh (cB qlt (eV 1) (eI 4)) nbX6_init_1 100)
 (nSeq (nLift (sSet 1 (eI 0)))
 (nWh (cB qlt (eV 1) (eI 4)) nbX6_init_2 100)))))))))
set_option maxRecDepth 100000 in
theorem oX6_init : OkN YX6_init [(0, 2)] [(0, 2), (1, 0)] 0 [88] sX6_init := by
  unfold sX6_init
  exact (okN_seq (p1 := 4) (Γ1 := [(0, 2)]) (okN_super (p0 := 1) (ok_aload_n dX6_init_0 (.head _) rfl (.head _)) km_X6_3 (Nat.le_of_ble_eq_true rfl) (Nat.le_of_ble_eq_true rfl) dX6_init_1 (.head _))
 (okN_seq (p1 := 9) (Γ1 := [(0, 2)]) (okN_lift (okPut (p1 := 5) (p2 := 6) (k := 0) (ok_aload_n dX6_init_4 (.head _) rfl (.head _)) (ok_iconst dX6_init_5 (.head _) (irn (by decide) (by decide))) rfl ci_6 (by decide) kf_X6_9 rfl (fun z _ => qfit_int z) dX6_init_6 (.head _) rfl))
 (okN_seq (p1 := 17) (Γ1 := [(0, 2)]) (okN_FR (κ := 32) (p0 := 10) (p1 := 11) (k := 3) (ok_aload_n dX6_init_9 (.head _) rfl (.head _)) (ok_iconst dX6_init_10 (.head _) (irn (by decide) (by decide))) (by decide) (by decide) rfl rfl (List.mem_of_getElem? (i := 0) rfl) kl_X6_15 (by decide) (by decide) dX6_init_11 ci_6 (by decide) kf_X6_17 (.inr rfl) rfl (fun z => qfit_arr _ z) dX6_init_14 (.head _))
 (okN_seq (p1 := 25) (Γ1 := [(0, 2)]) (okN_FR (κ := 30) (p0 := 18) (p1 := 19) (k := 4) (ok_aload_n dX6_init_17 (.head _) rfl (.head _)) (ok_iconst dX6_init_18 (.head _) (irn (by decide) (by decide))) (by decide) (by decide) rfl rfl (List.mem_of_getElem? (i := 1) rfl) kl_X6_21 (by decide) (by decide) dX6_init_19 ci_6 (by decide) kf_X6_23 (.inr rfl) rfl (fun z => qfit_arr _ z) dX6_init_22 (.head _))
 (okN_seq (p1 := 36) (Γ1 := [(0, 2)]) (okN_FO (p0 := 26) (k := 5) (ok_aload_n dX6_init_25 (.head _) rfl (.head _)) ⟨⟨_, _, ci_1, by decide +kernel⟩, kl_X6_27, kz_X1, kn_X1, MX1_init, cf_X1_init, kc_X1_init, (.inr ⟨_, List.mem_of_getElem? (i := 2) rfl⟩), ki_X1_init, rfl, (Nat.le_of_ble_eq_true rfl), (Nat.le_of_ble_eq_true rfl)⟩ dX6_init_26 dX6_init_29 dX6_init_30 ci_6 (by decide) kf_X6_30 (.inr rfl) rfl (fun z => qfit_obj _ z) dX6_init_33 (.head _))
 (okN_seq (p1 := 38) (Γ1 := [(0, 2), (1, 0)]) (okN_lift (ok_istore_n (Γ' := [(0, 2), (1, 0)]) (p1 := 37) (τ := 0) (ok_iconst dX6_init_36 (.head _) (irn (by decide) (by decide))) t_0 dX6_init_37 rfl (by decide) (.head _) (by decide)))
 (okN_seq (p1 := 62) (Γ1 := [(0, 2), (1, 0)]) (okN_while (p1 := 43) (okCBf (p1 := 39) (p2 := 40) (τa := 0) (τb := 0) (ok_iload_n dX6_init_38 (.head _) rfl (.tail _ (.head _)) t_0) (ok_iconst dX6_init_39 (.head _) (irn (by decide) (by decide))) (j_icmp_ge dX6_init_40 rfl) nq_lt (.head _) (.head _)) onbX6_init_1)
 (okN_seq (p1 := 64) (Γ1 := [(0, 2), (1, 0)]) (okN_lift (ok_istore_n (Γ' := [(0, 2), (1, 0)]) (p1 := 63) (τ := 0) (ok_iconst dX6_init_62 (.head _) (irn (by decide) (by decide))) t_0 dX6_init_63 rfl (by decide) (.head _) (by decide)))
 (okN_while (p1 := 69) (okCBf (p1 := 65) (p2 := 66) (τa := 0) (τb := 0) (ok_iload_n dX6_init_64 (.head _) rfl (.tail _ (.head _)) t_0) (ok_iconst dX6_init_65 (.head _) (irn (by decide) (by decide))) (j_icmp_ge dX6_init_66 rfl) nq_lt (.head _) (.head _)) onbX6_init_2)))))))))
def mX6_init : NM := nM sX6_init
theorem MX6_init : MetN YX6_init yX6_init 16 235 mX6_init := metN_of rfl rfl (by decide +kernel) (by decide) dX6_init_88 oX6_init

abbrev YX3_init : YT := (RX3, cX3_init, 1, 1, 12, 9)
theorem cf_X3_init : CF yX3_init 0 := ⟨by decide +kernel, by decide +kernel, by decide +kernel⟩
def sX3_init : NT :=
 (nSeq nSuper
 (nSeq (nLift (sPut 3 3 (eV 0) (eI (-1))))
 (nSeq (nLift (sPut 3 4 (eV 0) (eI (-2147483648))))
 (nSeq (nLift (sPut 3 5 (eV 0) (eI (-2147483648))))
 (nSeq (nLift (sPut 3 8 (eV 0) (eI (-2000000000))))
 (nLift (sPut 3 9 (eV 0) (eI 2000000000))))))))
set_option maxRecDepth 100000 in
theorem oX3_init : OkN YX3_init [(0, 2)] [(0, 2)] 0 [33] sX3_init := by
  unfold sX3_init
  exact (okN_seq (p1 := 4) (Γ1 := [(0, 2)]) (okN_super (p0 := 1) (ok_aload_n dX3_init_0 (.head _) rfl (.head _)) km_X3_3 (Nat.le_of_ble_eq_true rfl) (Nat.le_of_ble_eq_true rfl) dX3_init_1 (.head _))
 (okN_seq (p1 := 9) (Γ1 := [(0, 2)]) (okN_lift (okPut (p1 := 5) (p2 := 6) (k := 3) (ok_aload_n dX3_init_4 (.head _) rfl (.head _)) (ok_iconst dX3_init_5 (.head _) (irn (by decide) (by decide))) rfl ci_3 (by decide) kf_X3_9 rfl (fun z _ => qfit_int z) dX3_init_6 (.head _) rfl))
 (okN_seq (p1 := 15) (Γ1 := [(0, 2)]) (okN_lift (okPut (p1 := 10) (p2 := 12) (k := 4) (ok_aload_n dX3_init_9 (.head _) rfl (.head _)) (ok_ldc kk_X3_15 (by decide) dX3_init_10 (.head _)) rfl ci_3 (by decide) kf_X3_16 rfl (fun z _ => qfit_int z) dX3_init_12 (.head _) rfl))
 (okN_seq (p1 := 21) (Γ1 := [(0, 2)]) (okN_lift (okPut (p1 := 16) (p2 := 18) (k := 5) (ok_aload_n dX3_init_15 (.head _) rfl (.head _)) (ok_ldc kk_X3_15 (by decide) dX3_init_16 (.head _)) rfl ci_3 (by decide) kf_X3_19 rfl (fun z _ => qfit_int z) dX3_init_18 (.head _) rfl))
 (okN_seq (p1 := 27) (Γ1 := [(0, 2)]) (okN_lift (okPut (p1 := 22) (p2 := 24) (k := 8) (ok_aload_n dX3_init_21 (.head _) rfl (.head _)) (ok_ldc kk_X3_22 (by decide) dX3_init_22 (.head _)) rfl ci_3 (by decide) kf_X3_23 rfl (fun z _ => qfit_int z) dX3_init_24 (.head _) rfl))
 (okN_lift (okPut (p1 := 28) (p2 := 30) (k := 9) (ok_aload_n dX3_init_27 (.head _) rfl (.head _)) (ok_ldc kk_X3_26 (by decide) dX3_init_28 (.head _)) rfl ci_3 (by decide) kf_X3_27 rfl (fun z _ => qfit_int z) dX3_init_30 (.head _) rfl)))))))
def mX3_init : NM := nM sX3_init
theorem MX3_init : MetN YX3_init yX3_init 0 0 mX3_init := metN_of rfl rfl (by decide +kernel) (by decide) dX3_init_33 oX3_init

abbrev YX4_init : YT := (RX4, cX4_init, 1, 1, 12, 9)
theorem cf_X4_init : CF yX4_init 0 := ⟨by decide +kernel, by decide +kernel, by decide +kernel⟩
def sX4_init : NT :=
 (nSeq nSuper
 (nSeq (nFA 4 3 20 24)
 (nSeq (nFA 4 4 20 24)
 (nSeq (nFA 4 5 20 30)
 (nFA 4 6 24 30)))))
set_option maxRecDepth 100000 in
theorem oX4_init : OkN YX4_init [(0, 2)] [(0, 2)] 0 [36] sX4_init := by
  unfold sX4_init
  exact (okN_seq (p1 := 4) (Γ1 := [(0, 2)]) (okN_super (p0 := 1) (ok_aload_n dX4_init_0 (.head _) rfl (.head _)) km_X4_3 (Nat.le_of_ble_eq_true rfl) (Nat.le_of_ble_eq_true rfl) dX4_init_1 (.head _))
 (okN_seq (p1 := 12) (Γ1 := [(0, 2)]) (okN_FA (p0 := 5) (p1 := 7) (k := 3) (ok_aload_n dX4_init_4 (.head _) rfl (.head _)) (ok_bipush dX4_init_5 (.head _) (irn4 (by decide) (by decide))) ak_20 ka_arrayClass_1_55 (by decide) (by decide) (Nat.le_of_ble_eq_true rfl) dX4_init_7 ci_4 (by decide) kf_X4_9 (.inr rfl) rfl (fun z => qfit_arr _ z) dX4_init_9 (.head _))
 (okN_seq (p1 := 20) (Γ1 := [(0, 2)]) (okN_FA (p0 := 13) (p1 := 15) (k := 4) (ok_aload_n dX4_init_12 (.head _) rfl (.head _)) (ok_bipush dX4_init_13 (.head _) (irn4 (by decide) (by decide))) ak_20 ka_arrayClass_1_55 (by decide) (by decide) (Nat.le_of_ble_eq_true rfl) dX4_init_15 ci_4 (by decide) kf_X4_15 (.inr rfl) rfl (fun z => qfit_arr _ z) dX4_init_17 (.head _))
 (okN_seq (p1 := 28) (Γ1 := [(0, 2)]) (okN_FA (p0 := 21) (p1 := 23) (k := 5) (ok_aload_n dX4_init_20 (.head _) rfl (.head _)) (ok_bipush dX4_init_21 (.head _) (irn4 (by decide) (by decide))) ak_20 ka_arrayClass_1_55 (by decide) (by decide) (Nat.le_of_ble_eq_true rfl) dX4_init_23 ci_4 (by decide) kf_X4_18 (.inr rfl) rfl (fun z => qfit_arr _ z) dX4_init_25 (.head _))
 (okN_FA (p0 := 29) (p1 := 31) (k := 6) (ok_aload_n dX4_init_28 (.head _) rfl (.head _)) (ok_bipush dX4_init_29 (.head _) (irn4 (by decide) (by decide))) ak_24 ka_arrayClass_2_124 (by decide) (by decide) (Nat.le_of_ble_eq_true rfl) dX4_init_31 ci_4 (by decide) kf_X4_21 (.inr rfl) rfl (fun z => qfit_arr _ z) dX4_init_33 (.head _))))))
def mX4_init : NM := nM sX4_init
theorem MX4_init : MetN YX4_init yX4_init 4 108 mX4_init := metN_of rfl rfl (by decide +kernel) (by decide) dX4_init_36 oX4_init

abbrev YX9_init : YT := (RX9, cX9_init, 1, 1, 12, 9)
theorem cf_X9_init : CF yX9_init 0 := ⟨by decide +kernel, by decide +kernel, by decide +kernel⟩
def sX9_init : NT :=
 (nSeq nSuper
 (nSeq (nLift (sPut 9 3 (eV 0) (eI (-2147483648))))
 (nSeq (nLift (sPut 9 4 (eV 0) (eI (-2147483648))))
 (nLift (sPut 9 5 (eV 0) (eI (-2147483648)))))))
set_option maxRecDepth 100000 in
theorem oX9_init : OkN YX9_init [(0, 2)] [(0, 2)] 0 [22] sX9_init := by
  unfold sX9_init
  exact (okN_seq (p1 := 4) (Γ1 := [(0, 2)]) (okN_super (p0 := 1) (ok_aload_n dX9_init_0 (.head _) rfl (.head _)) km_X9_3 (Nat.le_of_ble_eq_true rfl) (Nat.le_of_ble_eq_true rfl) dX9_init_1 (.head _))
 (okN_seq (p1 := 10) (Γ1 := [(0, 2)]) (okN_lift (okPut (p1 := 5) (p2 := 7) (k := 3) (ok_aload_n dX9_init_4 (.head _) rfl (.head _)) (ok_ldc kk_X9_9 (by decide) dX9_init_5 (.head _)) rfl ci_9 (by decide) kf_X9_10 rfl (fun z _ => qfit_int z) dX9_init_7 (.head _) rfl))
 (okN_seq (p1 := 16) (Γ1 := [(0, 2)]) (okN_lift (okPut (p1 := 11) (p2 := 13) (k := 4) (ok_aload_n dX9_init_10 (.head _) rfl (.head _)) (ok_ldc kk_X9_9 (by decide) dX9_init_11 (.head _)) rfl ci_9 (by decide) kf_X9_16 rfl (fun z _ => qfit_int z) dX9_init_13 (.head _) rfl))
 (okN_lift (okPut (p1 := 17) (p2 := 19) (k := 5) (ok_aload_n dX9_init_16 (.head _) rfl (.head _)) (ok_ldc kk_X9_9 (by decide) dX9_init_17 (.head _)) rfl ci_9 (by decide) kf_X9_19 rfl (fun z _ => qfit_int z) dX9_init_19 (.head _) rfl)))))
def mX9_init : NM := nM sX9_init
theorem MX9_init : MetN YX9_init yX9_init 0 0 mX9_init := metN_of rfl rfl (by decide +kernel) (by decide) dX9_init_22 oX9_init

abbrev YX7_init : YT := (RX7, cX7_init, 2, 2, 32, 9)
theorem cf_X7_init : CF yX7_init 0 := ⟨by decide +kernel, by decide +kernel, by decide +kernel⟩
def nbX7_init_1 : NT :=
 (nSeq (nAO 39 (eF 7 1 (eV 0)) (eV 1) 9 6 mX9_init 0 0)
 (nLift (sInc 1 1)))
set_option maxRecDepth 100000 in
theorem onbX7_init_1 : OkN YX7_init [(0, 2), (1, 0)] [(0, 2), (1, 0)] 27 [22] nbX7_init_1 := by
  unfold nbX7_init_1
  exact okN_end (p1 := 43) (tg := 22) (okN_seq (p1 := 40) (Γ1 := [(0, 2), (1, 0)]) (okN_AO (p0 := 31) (p1 := 32) (κ := 39) (okF (p1 := 28) (k := 1) (ok_aload_n dX7_init_27 (.head _) rfl (.head _)) ci_7 (by decide) kf_X7_17 dX7_init_28 (.head _) rfl rfl) (ok_iload_n dX7_init_31 (.head _) rfl (.tail _ (.head _)) t_0) ⟨⟨_, _, ci_9, by decide +kernel⟩, kl_X7_15, kz_X9, kn_X9, MX9_init, cf_X9_init, kc_X9_init, (.inr ⟨_, List.mem_of_getElem? (i := 7) rfl⟩), ki_X9_init, rfl, (Nat.le_of_ble_eq_true rfl), (Nat.le_of_ble_eq_true rfl)⟩ (by decide) rfl rfl dX7_init_32 dX7_init_35 dX7_init_36 dX7_init_39 (.head _))
 (okN_lift (okInc (.tail _ (.head _)) dX7_init_40 (by decide) (.head _) (by decide)))) dX7_init_43 rfl (.head _)
def sX7_init : NT :=
 (nSeq nSuper
 (nSeq (nFA 7 0 20 120)
 (nSeq (nFA 7 1 39 4)
 (nSeq (nLift (sSet 1 (eI 0)))
 (nWh (cB qlt (eV 1) (eI 4)) nbX7_init_1 100)))))
set_option maxRecDepth 100000 in
theorem oX7_init : OkN YX7_init [(0, 2)] [(0, 2), (1, 0)] 0 [46] sX7_init := by
  unfold sX7_init
  exact (okN_seq (p1 := 4) (Γ1 := [(0, 2)]) (okN_super (p0 := 1) (ok_aload_n dX7_init_0 (.head _) rfl (.head _)) km_X7_3 (Nat.le_of_ble_eq_true rfl) (Nat.le_of_ble_eq_true rfl) dX7_init_1 (.head _))
 (okN_seq (p1 := 12) (Γ1 := [(0, 2)]) (okN_FA (p0 := 5) (p1 := 7) (k := 0) (ok_aload_n dX7_init_4 (.head _) rfl (.head _)) (ok_bipush dX7_init_5 (.head _) (irn4 (by decide) (by decide))) ak_20 ka_arrayClass_1_55 (by decide) (by decide) (Nat.le_of_ble_eq_true rfl) dX7_init_7 ci_7 (by decide) kf_X7_11 (.inr rfl) rfl (fun z => qfit_arr _ z) dX7_init_9 (.head _))
 (okN_seq (p1 := 20) (Γ1 := [(0, 2)]) (okN_FR (κ := 39) (p0 := 13) (p1 := 14) (k := 1) (ok_aload_n dX7_init_12 (.head _) rfl (.head _)) (ok_iconst dX7_init_13 (.head _) (irn (by decide) (by decide))) (by decide) (by decide) rfl rfl (List.mem_of_getElem? (i := 6) rfl) kl_X7_15 (by decide) (by decide) dX7_init_14 ci_7 (by decide) kf_X7_17 (.inr rfl) rfl (fun z => qfit_arr _ z) dX7_init_17 (.head _))
 (okN_seq (p1 := 22) (Γ1 := [(0, 2), (1, 0)]) (okN_lift (ok_istore_n (Γ' := [(0, 2), (1, 0)]) (p1 := 21) (τ := 0) (ok_iconst dX7_init_20 (.head _) (irn (by decide) (by decide))) t_0 dX7_init_21 rfl (by decide) (.head _) (by decide)))
 (okN_while (p1 := 27) (okCBf (p1 := 23) (p2 := 24) (τa := 0) (τb := 0) (ok_iload_n dX7_init_22 (.head _) rfl (.tail _ (.head _)) t_0) (ok_iconst dX7_init_23 (.head _) (irn (by decide) (by decide))) (j_icmp_ge dX7_init_24 rfl) nq_lt (.head _) (.head _)) onbX7_init_1)))))
def mX7_init : NM := nM sX7_init
theorem MX7_init : MetN YX7_init yX7_init 6 148 mX7_init := metN_of rfl rfl (by decide +kernel) (by decide) dX7_init_46 oX7_init

abbrev YX8_init : YT := (RX8, cX8_init, 2, 3, 53, 9)
theorem cf_X8_init : CF yX8_init 0 := ⟨by decide +kernel, by decide +kernel, by decide +kernel⟩
def nbX8_init_1 : NT :=
 (nSeq (nAO 33 (eF 8 2 (eV 0)) (eV 1) 3 10 mX3_init 0 0)
 (nSeq (nAO 34 (eF 8 3 (eV 0)) (eV 1) 4 8 mX4_init 4 108)
 (nLift (sInc 1 1))))
set_option maxRecDepth 100000 in
theorem onbX8_init_1 : OkN YX8_init [(0, 2), (1, 0)] [(0, 2), (1, 0)] 35 [30] nbX8_init_1 := by
  unfold nbX8_init_1
  exact okN_end (p1 := 64) (tg := 30) (okN_seq (p1 := 48) (Γ1 := [(0, 2), (1, 0)]) (okN_AO (p0 := 39) (p1 := 40) (κ := 33) (okF (p1 := 36) (k := 2) (ok_aload_n dX8_init_35 (.head _) rfl (.head _)) ci_8 (by decide) kf_X8_11 dX8_init_36 (.head _) rfl rfl) (ok_iload_n dX8_init_39 (.head _) rfl (.tail _ (.head _)) t_0) ⟨⟨_, _, ci_3, by decide +kernel⟩, kl_X8_9, kz_X3, kn_X3, MX3_init, cf_X3_init, kc_X3_init, (.inr ⟨_, List.mem_of_getElem? (i := 5) rfl⟩), ki_X3_init, rfl, (Nat.le_of_ble_eq_true rfl), (Nat.le_of_ble_eq_true rfl)⟩ (by decide) rfl rfl dX8_init_40 dX8_init_43 dX8_init_44 dX8_init_47 (.head _))
 (okN_seq (p1 := 61) (Γ1 := [(0, 2), (1, 0)]) (okN_AO (p0 := 52) (p1 := 53) (κ := 34) (okF (p1 := 49) (k := 3) (ok_aload_n dX8_init_48 (.head _) rfl (.head _)) ci_8 (by decide) kf_X8_19 dX8_init_49 (.head _) rfl rfl) (ok_iload_n dX8_init_52 (.head _) rfl (.tail _ (.head _)) t_0) ⟨⟨_, _, ci_4, by decide +kernel⟩, kl_X8_17, kz_X4, kn_X4, MX4_init, cf_X4_init, kc_X4_init, (.inr ⟨_, List.mem_of_getElem? (i := 6) rfl⟩), ki_X4_init, rfl, (Nat.le_of_ble_eq_true rfl), (Nat.le_of_ble_eq_true rfl)⟩ (by decide) rfl rfl dX8_init_53 dX8_init_56 dX8_init_57 dX8_init_60 (.head _))
 (okN_lift (okInc (.tail _ (.head _)) dX8_init_61 (by decide) (.head _) (by decide))))) dX8_init_64 rfl (.head _)
def nbX8_init_2 : NT :=
 (nSeq (nAO 37 (eF 8 4 (eV 0)) (eV 1) 7 2 mX7_init 6 148)
 (nLift (sInc 1 1)))
set_option maxRecDepth 100000 in
theorem onbX8_init_2 : OkN YX8_init [(0, 2), (1, 0)] [(0, 2), (1, 0)] 74 [69] nbX8_init_2 := by
  unfold nbX8_init_2
  exact okN_end (p1 := 90) (tg := 69) (okN_seq (p1 := 87) (Γ1 := [(0, 2), (1, 0)]) (okN_AO (p0 := 78) (p1 := 79) (κ := 37) (okF (p1 := 75) (k := 4) (ok_aload_n dX8_init_74 (.head _) rfl (.head _)) ci_8 (by decide) kf_X8_25 dX8_init_75 (.head _) rfl rfl) (ok_iload_n dX8_init_78 (.head _) rfl (.tail _ (.head _)) t_0) ⟨⟨_, _, ci_7, by decide +kernel⟩, kl_X8_23, kz_X7, kn_X7, MX7_init, cf_X7_init, kc_X7_init, (.inl km_X8_31), ki_X7_init, rfl, (Nat.le_of_ble_eq_true rfl), (Nat.le_of_ble_eq_true rfl)⟩ (by decide) rfl rfl dX8_init_79 dX8_init_82 dX8_init_83 dX8_init_86 (.head _))
 (okN_lift (okInc (.tail _ (.head _)) dX8_init_87 (by decide) (.head _) (by decide)))) dX8_init_90 rfl (.head _)
def sX8_init : NT :=
 (nSeq nSuper
 (nSeq (nFA 8 2 33 4)
 (nSeq (nFA 8 3 34 4)
 (nSeq (nFA 8 4 37 4)
 (nSeq (nLift (sSet 1 (eI 0)))
 (nSeq (nWh (cB qlt (eV 1) (eI 4)) nbX8_init_1 100)
 (nSeq (nLift (sSet 1 (eI 0)))
 (nWh (cB qlt (eV 1) (eI 4)) nbX8_init_2 100))))))))
set_option maxRecDepth 100000 in
theorem oX8_init : OkN YX8_init [(0, 2)] [(0, 2), (1, 0)] 0 [93] sX8_init := by
  unfold sX8_init
  exact (okN_seq (p1 := 4) (Γ1 := [(0, 2)]) (okN_super (p0 := 1) (ok_aload_n dX8_init_0 (.head _) rfl (.head _)) km_X8_3 (Nat.le_of_ble_eq_true rfl) (Nat.le_of_ble_eq_true rfl) dX8_init_1 (.head _))
 (okN_seq (p1 := 12) (Γ1 := [(0, 2)]) (okN_FR (κ := 33) (p0 := 5) (p1 := 6) (k := 2) (ok_aload_n dX8_init_4 (.head _) rfl (.head _)) (ok_iconst dX8_init_5 (.head _) (irn (by decide) (by decide))) (by decide) (by decide) rfl rfl (List.mem_of_getElem? (i := 3) rfl) kl_X8_9 (by decide) (by decide) dX8_init_6 ci_8 (by decide) kf_X8_11 (.inr rfl) rfl (fun z => qfit_arr _ z) dX8_init_9 (.head _))
 (okN_seq (p1 := 20) (Γ1 := [(0, 2)]) (okN_FR (κ := 34) (p0 := 13) (p1 := 14) (k := 3) (ok_aload_n dX8_init_12 (.head _) rfl (.head _)) (ok_iconst dX8_init_13 (.head _) (irn (by decide) (by decide))) (by decide) (by decide) rfl rfl (List.mem_of_getElem? (i := 4) rfl) kl_X8_17 (by decide) (by decide) dX8_init_14 ci_8 (by decide) kf_X8_19 (.inr rfl) rfl (fun z => qfit_arr _ z) dX8_init_17 (.head _))
 (okN_seq (p1 := 28) (Γ1 := [(0, 2)]) (okN_FR (κ := 37) (p0 := 21) (p1 := 22) (k := 4) (ok_aload_n dX8_init_20 (.head _) rfl (.head _)) (ok_iconst dX8_init_21 (.head _) (irn (by decide) (by decide))) (by decide) (by decide) rfl rfl (List.mem_of_getElem? (i := 5) rfl) kl_X8_23 (by decide) (by decide) dX8_init_22 ci_8 (by decide) kf_X8_25 (.inr rfl) rfl (fun z => qfit_arr _ z) dX8_init_25 (.head _))
 (okN_seq (p1 := 30) (Γ1 := [(0, 2), (1, 0)]) (okN_lift (ok_istore_n (Γ' := [(0, 2), (1, 0)]) (p1 := 29) (τ := 0) (ok_iconst dX8_init_28 (.head _) (irn (by decide) (by decide))) t_0 dX8_init_29 rfl (by decide) (.head _) (by decide)))
 (okN_seq (p1 := 67) (Γ1 := [(0, 2), (1, 0)]) (okN_while (p1 := 35) (okCBf (p1 := 31) (p2 := 32) (τa := 0) (τb := 0) (ok_iload_n dX8_init_30 (.head _) rfl (.tail _ (.head _)) t_0) (ok_iconst dX8_init_31 (.head _) (irn (by decide) (by decide))) (j_icmp_ge dX8_init_32 rfl) nq_lt (.head _) (.head _)) onbX8_init_1)
 (okN_seq (p1 := 69) (Γ1 := [(0, 2), (1, 0)]) (okN_lift (ok_istore_n (Γ' := [(0, 2), (1, 0)]) (p1 := 68) (τ := 0) (ok_iconst dX8_init_67 (.head _) (irn (by decide) (by decide))) t_0 dX8_init_68 rfl (by decide) (.head _) (by decide)))
 (okN_while (p1 := 74) (okCBf (p1 := 70) (p2 := 71) (τa := 0) (τb := 0) (ok_iload_n dX8_init_69 (.head _) rfl (.tail _ (.head _)) t_0) (ok_iconst dX8_init_70 (.head _) (irn (by decide) (by decide))) (j_icmp_ge dX8_init_71 rfl) nq_lt (.head _) (.head _)) onbX8_init_2))))))))
def mX8_init : NM := nM sX8_init
theorem MX8_init : MetN YX8_init yX8_init 55 1116 mX8_init := metN_of rfl rfl (by decide +kernel) (by decide) dX8_init_93 oX8_init
