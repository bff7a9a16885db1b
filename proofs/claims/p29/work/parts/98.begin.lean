/-! THE CLAIM OUT OF ONE WALK OF THE LAW'S BODY. Your part is whole_start (and what it stands on); all else here is the same for every law, but numbers. -/
def R_law : String := "TreePassesLaw"
def lw_P (b : Addr) (xs : List Int32) (args : Array Value) (s : State) : Prop := args = #[.ref b] ∧ s.IntsAt b xs ∧ xs.length ≤ 2560 ∧ (Jvm.Cond.and given_1 narrow_1).before args s = true
def lw_Q (_ : Array Value) (s : State) (o : Outcome) (t : State) : Prop := o = .returned (some (.int 1)) ∧ Framed s o t [] 600000 7302250
def lw_Z (below : List Frame) (a : Array Value) (s : State) : State → Prop := fun t => ∃ o, t.status = .running ∧ Ended t below o ∧ lw_Q a s o t
/-- the law's own end, with 1 on the stack, nothing written that was there before, its room as the claim has it -/
theorem lw_ret {p : Program} {l : Launch} {e : Env} {s : State} {m : MethodId} {below : List Frame} {meth : Method} {c : Code} {b : Nat} (hx : p.tables.exec = Jvm.exec) (hb : c.code = code) (hr : meth.sig.returnType = ret) (hlocks : meth.locks = false) {pc : Nat} {H : Heap} {ls : Array Slot} (hdg : decode code pc = .ok (.ireturn, 1)) : W p l e room_1 s m #[Value.ref b] below meth c H [] 600000 7302250 (lw_Z below #[Value.ref b] s) (F0 m pc ls [.int 1]) := by
  intro T hT X
  obtain ⟨fs, hret, hrun, hended, hW, hframe⟩ := X.leave (v := some (.int 1)) (hlocks := hlocks) (fun h => by rw [hr] at h; cases h)
  have hmeth' : T.vm.method? m = some meth := X.method'
  refine ⟨T.setFrames fs, ?_, .returned (some (.int 1)), hrun, hended, rfl, ⟨_, rfl⟩, hW, hframe⟩
  jvm_step X.here [X.here.top, hx, hb, hdg, hmeth', hr, ret, narrow_b1]
  (try refine ⟨rfl, ?_⟩); (try refine ⟨rfl, ?_⟩)
  first | (intro acts; rw [hret _ acts rfl rfl rfl]) | rw [hret _ _ rfl rfl rfl]
  exact Steps.refl _
/-- what holds at the law's entry: the machine, the code, the tables' words (any of lw_tbl by 'hts w (by decide +kernel)'), the script of L ints xs at the cell b, what the Statement gives of the start (any of its parts by flat_of_before) -/
def lw_At (p : Program) (s : State) (m : MethodId) (meth : Method) (c : Code) (b L : Nat) (xs : Nat → Int32) : Prop :=
  p.tables.exec = Jvm.exec ∧ c.code = code ∧ meth.sig.returnType = ret ∧ c.maxLocals = 4 ∧ s.vm.findClass R_law = some m.cls ∧ (∀ w ∈ lw_tbl, w.before #[Value.ref b] s = true) ∧ va_X b L xs s s.heap ∧ b < s.heap.size ∧ meth.locks = false ∧ (Jvm.Cond.and given_1 narrow_1).before #[Value.ref b] s = true ∧ meth.name = "law"
-- ===== YOUR PART BEGINS =====
theorem z_known {s : State} {args : Array Value} (hts : ∀ w ∈ lw_tbl, w.before args s = true) : ∃ D : va_G, va_K D q_cl [] s := by
  obtain ⟨c0, i0, k0⟩ := u_known (C := RX0) (T := TX0) (N := 15) (n := 15) hts (fun w hw => (List.mem_filter.mp ((q_cw 0 _ rfl).1 w hw)).1) (hts (.instantiable RX0 15) (List.mem_filter.mp w_169).1)
  obtain ⟨c2, i2, k2⟩ := u_known (C := RX2) (T := TX2) (N := 7) (n := 7) hts (fun w hw => (List.mem_filter.mp ((q_cw 2 _ rfl).1 w hw)).1) (hts (.instantiable RX2 7) (List.mem_filter.mp w_54).1)
  obtain ⟨c3, i3, k3⟩ := u_known (C := RX3) (T := TX3) (N := 5) (n := 5) hts (fun w hw => (List.mem_filter.mp ((q_cw 3 _ rfl).1 w hw)).1) (hts (.instantiable RX3 5) (List.mem_filter.mp w_27).1)
  obtain ⟨c4, i4, k4⟩ := u_known (C := RX4) (T := TX4) (N := 3) (n := 3) hts (fun w hw => (List.mem_filter.mp ((q_cw 4 _ rfl).1 w hw)).1) (hts (.instantiable RX4 3) (List.mem_filter.mp w_84).1)
  obtain ⟨c5, i5, k5⟩ := u_known (C := RX5) (T := TX5) (N := 4) (n := 4) hts (fun w hw => (List.mem_filter.mp ((q_cw 5 _ rfl).1 w hw)).1) (hts (.instantiable RX5 4) (List.mem_filter.mp w_105).1)
  obtain ⟨c6, i6, k6⟩ := u_known (C := RX6) (T := TX6) (N := 1) (n := 1) hts (fun w hw => (List.mem_filter.mp ((q_cw 6 _ rfl).1 w hw)).1) (hts (.instantiable RX6 1) (List.mem_filter.mp w_127).1)
  obtain ⟨c7, i7, k7⟩ := u_known (C := RX7) (T := TX7) (N := 7) (n := 7) hts (fun w hw => (List.mem_filter.mp ((q_cw 7 _ rfl).1 w hw)).1) (hts (.instantiable RX7 7) (List.mem_filter.mp w_139).1)
  obtain ⟨c8, i8, k8⟩ := u_known (C := RX8) (T := TX8) (N := 12) (n := 12) hts (fun w hw => (List.mem_filter.mp ((q_cw 8 _ rfl).1 w hw)).1) (hts (.instantiable RX8 12) (List.mem_filter.mp w_19).1)
  obtain ⟨c9, i9, k9⟩ := u_known (C := RX9) (T := TX9) (N := 33) (n := 33) hts (fun w hw => (List.mem_filter.mp ((q_cw 9 _ rfl).1 w hw)).1) (hts (.instantiable RX9 33) (List.mem_filter.mp w_880).1)
  refine ⟨(fun k => if k = 0 then c0 else if k = 1 then c2 else if k = 2 then c2 else if k = 3 then c3 else if k = 4 then c4 else if k = 5 then c5 else if k = 6 then c6 else if k = 7 then c7 else if k = 8 then c8 else c9, fun k => if k = 0 then i0 else if k = 1 then i2 else if k = 2 then i2 else if k = 3 then i3 else if k = 4 then i4 else if k = 5 then i5 else if k = 6 then i6 else if k = 7 then i7 else if k = 8 then i8 else i9), ?_, fun k q h => by simp at h⟩
  intro k q hq
  match k, hq with
  | 0, hq => cases hq; exact k0
  | 1, hq => cases hq; exact k2
  | 2, hq => cases hq; exact k2
  | 3, hq => cases hq; exact k3
  | 4, hq => cases hq; exact k4
  | 5, hq => cases hq; exact k5
  | 6, hq => cases hq; exact k6
  | 7, hq => cases hq; exact k7
  | 8, hq => cases hq; exact k8
  | 9, hq => cases hq; exact k9
  | k + 10, hq => simp [q_cl] at hq
theorem z_St {p : Program} {s : State} {m : MethodId} {meth : Method} {c : Code} (l : Launch) {b L : Nat} {xs : Nat → Int32} (C0 : lw_At p s m meth c b L xs) : ∃ E : q_E, (∀ k, E.2.2.2.1 k < 4294967296) ∧ E.1 = l ∧ E.2.2.2.2 = L ∧ E.2.2.1 0 = b ∧ va_K E.2.1 q_cl [] s ∧ q_St E (fun q => s.heap.size ≤ q) s s.heap := by
  obtain ⟨hx, hb, hr, hml, hown, hts, hX, hbl, hlocks, hgv, hnm⟩ := C0
  have hs := flat_of_before _ hgv
  have hA : ∀ a : Nat, a < s.heap.size → ¬ (fun q : Nat => s.heap.size ≤ q) a := fun a h z => absurd z (Nat.not_le.mpr h)
  have m1 : ∀ j, j < 5 → Cond.eq (.elem (.static "TreePasses" "CHILDREN" "[I") (.int (Int32.ofNat j))) (.int (nI (q_chi j))) ∈ flatC (Jvm.Cond.and given_1 narrow_1) := by decide +kernel
  have m2 : ∀ j, j < 6 → Cond.eq (.elem (.static "TreePasses" "WHERE" "[J") (.int (Int32.ofNat j))) (.long (lN (q_whe j))) ∈ flatC (Jvm.Cond.and given_1 narrow_1) := by decide +kernel
  have m3 : ∀ j, j < 184 → z_bc j ∈ flatC (Jvm.Cond.and given_1 narrow_1) := z_m3
  obtain ⟨t1, e1, T1⟩ := va_Tof (tm := .static "TreePasses" "CHILDREN" "[I") (ty := .int) (N := 5) (f := fun i => .int (nI (q_chi i))) (A := fun q => s.heap.size ≤ q) (by decide) (hs _ (by decide +kernel)) (va_eqt (z := Int32.ofNat 5) (hs _ (by decide +kernel))) (fun j hj => va_eqt (hs _ (m1 j hj))) hA
  obtain ⟨t2, e2, T2⟩ := va_Tof (tm := .static "TreePasses" "WHERE" "[J") (ty := .long) (N := 6) (f := fun i => .long (lN (q_whe i))) (A := fun q => s.heap.size ≤ q) (by decide) (hs _ (by decide +kernel)) (va_eqt (z := Int32.ofNat 6) (hs _ (by decide +kernel))) (fun j hj => va_eqtl (hs _ (m2 j hj))) hA
  have Z1 := va_Zof (hts (.laysStatic "TreePasses" "CHILDREN" "[I") (by decide +kernel)) (hts (.initialized "TreePasses") (by decide +kernel)) e1 hA
  have Z2 := va_Zof (hts (.laysStatic "TreePasses" "WHERE" "[J") (by decide +kernel)) (hts (.initialized "TreePasses") (by decide +kernel)) e2 hA
  have Z3 := va_Zof (hts (.laysStatic "java/lang/String" "COMPACT_STRINGS" "Z") (by decide +kernel)) (hts (.initialized "java/lang/String") (by decide +kernel)) (va_eqi (z := 1) (hs _ (by decide +kernel))) hA
  have Z4 := va_Zqof (hts (.laysStatic "jdk/internal/util/Preconditions" "SIOOBE_FORMATTER" "Ljava/util/function/BiFunction;") (by decide +kernel)) (hts (.initialized "jdk/internal/util/Preconditions") (by decide +kernel)) (hs _ (by decide +kernel)) hA
  obtain ⟨adK, adV, S1, S2⟩ := vk_Sof (N := 1) (tm := fun _ => .string "TreePasses" 76) (len := [q_let.length]) (byt := [q_let.map nI]) (A := fun q => s.heap.size ≤ q) (args := #[Value.ref b]) (s := s)
    (fun i hi => by have : i = 0 := by omega
                    subst this
                    decide +kernel)
    (fun i _ => hs _ (by decide +kernel)) (fun i _ => hs _ (by decide +kernel)) (fun i _ => hs _ (by decide +kernel))
    (fun i hi => by have : i = 0 := by omega
                    subst this
                    exact hs _ (by decide +kernel))
    (fun i hi j hj => by have : i = 0 := by omega
                         subst this
                         have hj : j < q_let.length := hj
                         rw [q_let_len] at hj
                         exact hs _ (m3 j hj))
    (fun i j hi hj hne => absurd (show i = j by omega) hne) hA
  obtain ⟨D, hK⟩ := z_known hts
  refine ⟨(l, D, fun k => [b, t1, t2, adK 0, adV 0].getD k 0, fun k => (xs k).toBitVec.toNat, L), fun k => (xs k).toBitVec.isLt, rfl, rfl, rfl, hK, ⟨?_, hbl, hA b hbl⟩, ⟨Z1, T1⟩, ⟨Z2, T2⟩, ⟨⟨hts (.stringRef "TreePasses" 76 q_txt) (by decide +kernel), S2 0 (by decide)⟩, ⟨fun i hi => ?_, fun i j hi hj _ => by omega⟩, Z3, Z4⟩, fun w hw => va_Nw.of (q_nst_on hw) (hts w (List.mem_filter.mp hw).1), va_AO.of (hts (.arrayOver (.object RX2)) (by decide +kernel))⟩
  · have hxs : (fun k => nI ((xs k).toBitVec.toNat)) = xs := by
      funext k
      apply Int32.toBitVec_inj.mp
      rw [q_bI]
      simp
    show va_X b L (fun k => nI ((xs k).toBitVec.toNat)) s s.heap
    rw [hxs]
    exact hX
  · have : i = 0 := by omega
    subst this
    exact S1.1 0 hi
