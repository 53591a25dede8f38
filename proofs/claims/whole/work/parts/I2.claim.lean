/-! THE CLAIM OUT OF ONE WALK OF THE LAW'S BODY. Your part is whole_start (and what it stands on); all else here is the same for every law, but numbers. -/
def R_law : String := "RoundRowsLaw"
def lw_P (b : Addr) (xs : List Int32) (args : Array Value) (s : State) : Prop := args = #[.ref b] ∧ s.IntsAt b xs ∧ xs.length ≤ 3072 ∧ (Jvm.Cond.and given_1 narrow_1).before args s = true
def lw_Q (_ : Array Value) (s : State) (o : Outcome) (t : State) : Prop := o = .returned (some (.int 1)) ∧ Framed s o t [] 600000 7302250
def lw_Z (below : List Frame) (a : Array Value) (s : State) : State → Prop := fun t => ∃ o, t.status = .running ∧ Ended t below o ∧ lw_Q a s o t
/-- the law's own end, with 1 on the stack, nothing written that was there before, its room as the claim has it -/
theorem lw_ret {p : Program} {l : Launch} {e : Env} {s : State} {m : MethodId} {below : List Frame} {meth : Method} {c : Code} {b : Nat} (hx : p.tables.exec = Jvm.exec) (hb : c.code = code) (hr : meth.sig.returnType = ret) (hlocks : meth.locks = false) {pc : Nat} {H : Heap} {ls : Array Slot} (hdg : decode code pc = .ok (.ireturn, 1)) : W p l e room_1 s m #[Value.ref b] below meth c H [] 600000 7302250 (lw_Z below #[Value.ref b] s) (F0 m pc ls [.int 1]) := by
  intro T hT X
  obtain ⟨fs, hret, hrun, hended, hW, hframe⟩ := X.leave (v := some (.int 1)) (hlocks := hlocks) (fun h => by rw [hr] at h; cases h)
  have hmeth' : T.vm.method? m = some meth := X.method'
  refine ⟨T.setFrames fs, ?_, .returned (some (.int 1)), hrun, hended, rfl, ⟨_, rfl⟩, hW, hframe⟩
  jvm_step X.here [X.here.top, hx, hb, hdg, hmeth', hr, ret, narrow_b1]
  (try refine ⟨rfl, ?_⟩); (try refine ⟨rfl, ?_⟩)
  first | (intro acts; rw [hret _ acts rfl rfl rfl]) | rw [hret _ _ rfl rfl rfl]
  exact Steps.refl _
/-- what holds at the law's entry: the machine, the code, the tables' words (any of lw_tbl by 'hts w (by decide +kernel)'), the script of L ints xs at the cell b, what the Statement gives of the start (any of its parts by flat_of_before) -/
def lw_At (p : Program) (s : State) (m : MethodId) (meth : Method) (c : Code) (b L : Nat) (xs : Nat → Int32) : Prop :=
  p.tables.exec = Jvm.exec ∧ c.code = code ∧ meth.sig.returnType = ret ∧ c.maxLocals = 4 ∧ s.vm.findClass R_law = some m.cls ∧ (∀ w ∈ lw_tbl, w.before #[Value.ref b] s = true) ∧ va_X b L xs s s.heap ∧ b < s.heap.size ∧ meth.locks = false ∧ (Jvm.Cond.and given_1 narrow_1).before #[Value.ref b] s = true
theorem mk_X11 : MkI YL YX11_init yX11_init 11 14 7 9 888 21416 RX11 mX11_init := ⟨⟨_, _, ci_11, by decide +kernel⟩, kl_L_7, kz_X11, kn_X11, MX11_init, cf_X11_init, kc_X11_init, .inl km_L_9, ki_X11_init, rfl, Nat.le_of_ble_eq_true rfl, Nat.le_of_ble_eq_true rfl⟩
theorem mk_X12 : MkI YL YX12_init yX12_init 12 60 10 12 38 20236 RX12 mX12_init := ⟨⟨_, _, ci_12, by decide +kernel⟩, kl_L_10, kz_X12, kn_X12, MX12_init, cf_X12_init, kc_X12_init, .inl km_L_12, ki_X12_init, rfl, Nat.le_of_ble_eq_true rfl, Nat.le_of_ble_eq_true rfl⟩
theorem vo_32 (z : Int32) : vo 0 z.toInt = .int z := by rw [vo0, Int32.ofInt_toInt]
theorem ir_32 (z : Int32) : ir 0 z.toInt := by
  show -2147483648 ≤ z.toInt ∧ z.toInt < 2147483648
  exact ⟨Int32.le_toInt z, Int32.toInt_lt z⟩
/-- the heap at the entry -/
theorem hp_start {s : State} {b L : Nat} {xs : Nat → Int32} {D : va_G} {cy : Nat → ClassId} {A : Nat → Prop} (hL : L ≤ 3072) {scr : Cell} (x1 : s.heap[b]? = some scr) (x2 : scr.cls = cy 14) (x3 : ∀ k, scr.vm ≠ .statics k) (x4 : scr.vm ≠ .unknown) (x5 : scr.slots.size = L) (x6 : ∀ j : Nat, j < L → scr.slots[j]? = some (.int (xs j))) : hpOk D cy A (fun a => if a = (b : Int) then 14 else 0, fun _ => (L : Int), s.heap.size) (fun _ k => (xs k.toNat).toInt) s.heap := by
  refine ⟨rfl, fun a ha => ?_⟩
  have e : a = (b : Int) := by
    by_cases h : a = (b : Int)
    · exact h
    · exact absurd (if_neg h) ha
  subst e
  have e14 : (if (b : Int) = (b : Int) then 14 else 0 : Nat) = 14 := if_pos rfl
  refine ⟨Int.natCast_nonneg b, Or.inl e14, ?_⟩
  show cOk D cy (if (b : Int) = (b : Int) then 14 else 0 : Nat) (L : Int) (fun k => (xs k.toNat).toInt) ((b : Int).toNat) s.heap
  rw [e14, Int.toNat_natCast]
  refine Or.inr (Or.inr ⟨rfl, Int.natCast_nonneg L, by omega, fun k _ => ir_32 _, scr, x1, x2, x3, x4, by rw [x5, Int.toNat_natCast], fun k hk => ?_⟩)
  rw [x6 k (by omega)]
  show some (Value.int (xs k)) = some (vo 0 (xs ((k : Int).toNat)).toInt)
  rw [vo_32, Int.toNat_natCast]
/-- what both sides do, from the entry -/
theorem both_go {S : QS} {L0 : QL} {v : QV} {b len : Int} (l0 : L0 0 = b) (hb : S.1 b = 14) (hn : S.2.1 b = len) (hl : 0 ≤ len ∧ len ≤ 3072) (hlt : b < (S.2.2 : Int)) (hv : ∀ k, 0 ≤ k → k < len → -2147483648 ≤ v b k ∧ v b k ≤ 2147483647) : wN sLn L0 (S, v, 600000, 7302250) (fun L' N' => wS sL L' N'.1 N'.2.1 (fun k z _ _ => k = 3 ∧ z = 1)) := by
  obtain ⟨r, h1, ⟨a0, a1, a2⟩, ⟨c1, c2⟩, h3, h4, -, -⟩ := law_mk (L := L0) (S := S) (v := v) (c := 600000) (u := 7302250) (by decide) (by decide)
  refine ⟨r, h1, ?_⟩
  obtain ⟨k1, k2⟩ := c1 b hlt
  exact law_all (sc := b) (b := (S.2.2 : Int)) (len := len) (x := v b) (by rw [a0, l0]) a1 a2 (by rw [k1, hb]) (by rw [k2, hn]) hl hv ⟨h3, h4, fun k => c2 b k hlt⟩
theorem whole_start {p : Program} {e : Env} {s : State} {m : MethodId} {below : List Frame} {meth : Method} {c : Code} (l : Launch) (hflags : l.flags = flags0) {b L : Nat} {xs : Nat → Int32} (hL : L ≤ 3072) (C0 : lw_At p s m meth c b L xs) : W p l e room_1 s m #[Value.ref b] below meth c s.heap [] 0 0 (lw_Z below #[Value.ref b] s) (entryFrame m ([Value.ref b] : List Value).toArray 4) := by
  obtain ⟨hx, hb, hr, hml, hown, hts, hX, hbl, hlocks, hgv⟩ := id C0
  obtain ⟨D, cy, hW, scr, x1, x2, x3, x4, x5, x6⟩ := wk_start hts hX hgv
  have hP := hp_start (D := D) (cy := cy) (A := fun q => s.heap.size ≤ q) hL x1 x2 x3 x4 x5 x6
  have hgo := both_go (S := (fun a => if a = (b : Int) then 14 else 0, fun _ => (L : Int), s.heap.size)) (L0 := aL 0 [2] [(b : Int)]) (v := fun _ k => (xs k.toNat).toInt) (b := (b : Int)) (len := (L : Int)) rfl (if_pos rfl) rfl ⟨Int.natCast_nonneg L, by omega⟩ (Int.ofNat_lt.mpr hbl) (fun k _ _ => by
    have h : -2147483648 ≤ (xs k.toNat).toInt ∧ (xs k.toNat).toInt < 2147483648 := ir_32 _
    show -2147483648 ≤ (xs k.toNat).toInt ∧ (xs k.toNat).toInt ≤ 2147483647
    omega)
  generalize hS0 : ((fun a => if a = (b : Int) then 14 else 0, fun _ => (L : Int), s.heap.size) : QS) = S0 at hP hgo
  generalize hv0 : ((fun _ k => (xs k.toNat).toInt) : QV) = v0 at hP hgo
  obtain ⟨r, g1, k, z, M, w, g2, rfl, rfl⟩ := hgo
  obtain ⟨r1, g3, g4⟩ := Option.bind_eq_some_iff.mp g1
  have hC : MC YL (p, l, e, room_1, s, m, #[Value.ref b], below, meth, c, D, cy, fun q => s.heap.size ≤ q, s.heap, lw_Z below #[Value.ref b] s, 600000, 7302250) :=
    ⟨hx, hb, by rw [hml], hown, fun w hw => hts w (tw_all w hw), Nat.le_of_ble_eq_true rfl, Nat.le_of_ble_eq_true rfl, Nat.le_refl _, Nat.le_refl _, fun _ h => h, hW, rfl⟩
  rw [lg_entry_eq]
  have hsl : lg_sl [vo 2 (b : Int)] = [.val (vo 2 (b : Int))] := by
    show (if (vo 2 (b : Int)).category = 2 then [Slot.val (vo 2 (b : Int)), .second] else [.val (vo 2 (b : Int))]) ++ [] = _
    rw [vo_ct]
    rfl
  have evo : vo 2 (b : Int) = .ref b := by rw [vo2 (Int.natCast_nonneg b), Int.toNat_natCast]
  have hl := lv_entry [vo 2 (b : Int)] (n := 4) (by rw [hsl]; exact (Nat.le_of_ble_eq_true rfl : 1 ≤ 4))
  rw [evo] at hl
  generalize (lg_sl [Value.ref b] ++ List.replicate (4 - (lg_sl [Value.ref b]).length) Slot.unset).toArray = ls at hl ⊢
  have hir : irs [2] [(b : Int)] := ⟨by show (-1 : Int) ≤ (b : Int); omega, trivial⟩
  have hLv := entry_lv [2] [(b : Int)] 0 hir hl.1 hl.2.1 (by
    show ∀ q ∈ lv_args 0 [vo 2 (b : Int)], ls[q.1]? = some (.val q.2)
    rw [evo]
    exact hl.2.2)
  have hgo : WXN (p, l, e, room_1, s, m, #[Value.ref b], below, meth, c, D, cy, fun q => s.heap.size ≤ q, s.heap, lw_Z below #[Value.ref b] s, 600000, 7302250) YL.2.2.1 (gL 0 [2]) (aL 0 [2] [(b : Int)]) (S0, v0, 600000, 7302250) 0 [] := by
    refine wn_LO (k := 1) (Γ' := [(0, 2), (1, 2)]) mk_X11 dL_law_0 dL_law_3 dL_law_4 dL_law_7 rfl (by decide) (by decide) hC g3 ?_
    refine wn_LO (k := 2) (Γ' := [(0, 2), (1, 2), (2, 2)]) mk_X12 dL_law_8 dL_law_11 dL_law_12 dL_law_15 rfl (by decide) (by decide) hC g4 ?_
    intro kc uc hk1 hu1
    have hk1 : kc + r.2.2.2.1 = 600000 := hk1
    have hu1 : uc + r.2.2.2.2 = 7302250 := hu1
    refine oL _ (hC.at (k := kc) (u := uc) (by show kc ≤ 600000; omega) (by show uc ≤ 7302250; omega)) r.1 r.2.1 r.2.2.1 ((3, 1), M, w) g2 (fun h => absurd h (show ¬ (3 : Nat) = 0 by decide)) (fun h => absurd h (show ¬ (3 : Nat) = 1 by decide)) (fun h => absurd h (show ¬ (3 : Nat) = 2 by decide)) (fun _ => ?_)
    intro H locs ls' pc q1 q2 hd hi
    exact W.forget (locs := []) q2.2.2 (W.widen (by omega) (by omega) (lw_ret hx hb hr hlocks hd))
  exact hgo 0 0 (Nat.zero_add _) (Nat.zero_add _) s.heap [] ls hLv hP va_S.rf
set_option maxHeartbeats 4000000 in
theorem lw_walk (l : Launch) (hflags : l.flags = flags0) (b : Addr) (xs : List Int32) : MetFree l x (headSpec (Jvm.Cond.code x code maxLocals ret :: tables_1) room_1) (lw_P b xs) (fun _ _ _ _ _ => True) lw_Q := by
  refine MetFree.of_bodyS (code := code) (maxLocals := maxLocals) (ret := ret) (by decide) ?_ ?_
  · intro args s m h hn
    obtain ⟨meth, c, h1, h2, h3, h4, h5, h6, -, -⟩ := Cond.code_spec hn (atoms_spec (ws := Jvm.Cond.code x code maxLocals ret :: tables_1) h _ List.mem_cons_self)
    exact ⟨meth, c, h1, h2, h3, h4, h5, h6⟩
  · intro p e s m args below meth c s₁ B hml0 hP _
    obtain ⟨rfl, hx, hbd, hgv⟩ := hP
    obtain ⟨scr, harrAt, hlist, hof, hsmall⟩ := hx
    obtain ⟨hcb, hkn, -, -⟩ := State.arrayAt?_spec harrAt
    have hown : s.vm.findClass R_law = some m.cls := findClass_of_methodNamed B.named
    have hts0 : ∀ c ∈ (Jvm.Cond.code x code maxLocals ret :: tables_1), c.before #[Value.ref b] s = true := atoms_spec (ws := Jvm.Cond.code x code maxLocals ret :: tables_1) B.pre
    have hts : ∀ w ∈ lw_tbl, w.before #[Value.ref b] s = true := k2_hts_sels lw_privs (fun w hw => hts0 w (List.mem_cons_of_mem _ hw)) lw_privs_ok
    have hml : c.maxLocals = 4 := B.maxLocals_eq (hts0 _ List.mem_cons_self)
    have X₀ : Stand p l e room_1 s m #[Value.ref b] below meth c s₁ [] 0 0 := Stand.of_body B
    have hh0 : s₁.heap = s.heap := by rw [B.state]; rfl
    have hsz : scr.slots.size = xs.length := by rw [← Array.length_toList, hlist, List.length_map]
    have hval : ∀ j : Nat, j < xs.length → scr.slots[j]? = some (.int (xs.getD j 0)) := fun j hj => by
      rw [← Array.getElem?_toList, hlist]
      simp [hj]
    have hbl : b < s.heap.size := (Array.getElem?_eq_some_iff.mp hcb).1
    have hX : va_X b xs.length (fun j => xs.getD j 0) s s.heap := ⟨scr, hcb, hof, hkn, hsz, hval⟩
    have K : W p l e room_1 s m #[Value.ref b] below meth c s₁.heap [] 0 0 (lw_Z below #[Value.ref b] s) (entryFrame m ([Value.ref b] : List Value).toArray 4) := by
      rw [hh0]
      exact whole_start l hflags hbd ⟨B.exec, B.bytes, B.returns, hml, hown, hts, hX, hbl, B.notSynchronized, hgv⟩
    obtain ⟨t, a1, o, b1, b2, b3⟩ := K s₁ rfl X₀
    exact ⟨t, o, a1, b1, b2, b3⟩
theorem lw_pre_spec {args : Array Value} {s : State} (h : (Jvm.Cond.and given_1 narrow_1).before args s = true) (hr : rest_1_c.before args s = true) : ∃ (b : Addr) (xs : List Int32), lw_P b xs args s := by
  have hs := flat_of_before _ h
  have hq := flat_of_before _ hr
  have hc : (Cond.count 1).before args s = true := hs _ (by decide +kernel)
  have harr : (Cond.arrayOf (.arg 0) .int).before args s = true := hs _ (by decide +kernel)
  have hle : (Cond.le (.length (.arg 0)) (.int 3072)).before args s = true := hs _ (by decide +kernel)
  have hlen : (Cond.isInt (.length (.arg 0))).before args s = true := hq _ (by decide +kernel)
  have hall : (Cond.all (.arg 0) (.isInt (.elem (.arg 0) (.index 0)))).before args s = true := hq _ (by decide +kernel)
  obtain ⟨b, xs, hb, hx⟩ := State.ints_of_pre rfl harr hlen hall
  have hsm : xs.length < 2 ^ 31 := hx.choose_spec.2.2.2
  have hev : (Term.length (.arg 0)).eval args s none [] s = some (.int xs.length.toInt32) := hx.length_eval hb
  have hv := Cond.le_ints hev (show (Term.int 3072).eval args s none [] s = some (.int 3072) from rfl)
  have hd : xs.length.toInt32 ≤ 3072 := by
    simpa [Cond.before, Cond.holds, hv] using hle
  have hN : xs.length ≤ 3072 := (Int32.ofNat_le_ofNat hsm (by decide)).mp (show Int32.ofNat xs.length ≤ Int32.ofNat 3072 from hd)
  exact ⟨b, xs, Cond.one_arg hc (show args[0]? = some (.ref b) from hb), hx, hN, h⟩
theorem lw_comes (l : Launch) (hflags : l.flags = flags0) : Comes l x (Jvm.Cond.code x code maxLocals ret :: tables_1) room_1 (fun tb e args s => Calls_1 tb e args s ∧ rest_1 tb e args s ∧ Pre_1 tb e args s)
    (fun _ _ args s o t => lw_Q args s o t) := by
  intro p e ha hc hk s m args below hf hfit hheap happ hpre
  obtain ⟨b, xs, hP⟩ := lw_pre_spec hpre.2.2 hpre.2.1
  obtain ⟨k, o, h1, h2, h3, hQ⟩ := lw_walk l hflags b xs p e ha hc hk s m args below hf ((Spec.applies_iff_loose hf).mp happ).1 hP trivial
  exact ⟨k, o, h1, h2, h3, hQ⟩
theorem lw_frame {s t : State} {o : Outcome} {args : Array Value} (h : Framed s o t [] 600000 7302250) :
    Framed s o t (fieldLocs frame_1_writes args s ++ arrayLocs frame_1_arrays args s ++ staticLocs frame_1_statics s) 600000 7302250 := h
theorem lw_limb (L : Cond) (hL : ∀ (args : Array Value) (s t : State), L.after args s (.returned (some (.int 1))) t = true) :
    ArmFor flags0 classFile x code maxLocals ret World_1 tables_1 room_1 Calls_1 rest_1 Pre_1
      (fun tb e a s o t => postC L tb e a s o t ∧ Framed s o t (fieldLocs frame_1_writes a s ++ arrayLocs frame_1_arrays a s ++ staticLocs frame_1_statics s) 600000 7302250) := by
  intro l hflags _ _ p e ha hc hk s m args below hf hfit hheap happ hpre
  obtain ⟨k, o, h1, h2, h3, rfl, hF⟩ := lw_comes l hflags p e ha hc hk s m args below hf hfit hheap happ hpre
  exact ⟨k, _, h1, h2, h3, hL args s _, lw_frame hF⟩
theorem i_vc : Claimed_1_1 ∧ Claimed_1_2 := ⟨lw_limb limb_1_1 (fun args s t => by simp [limb_1_1, Cond.after, Cond.holds, Cond.value]), lw_limb limb_1_2 (fun args s t => Cond.after_iff.mpr (by
  first | (rw [show limb_1_2 = Cond.eq .result (.int 1) from rfl, Cond.eq_ints (x := 1) (y := 1) rfl rfl]; simp; done) | (simp [limb_1_2, Cond.value, Term.eval]; done)))⟩
