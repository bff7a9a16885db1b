abbrev z_l (i : Nat) : q_Lo := [(3, .inl i), (2, .inr (.inl 138)), (1, .inr (.inl 0)), (0, .inr (.inr (.inr (.inr (.inr (.inl 0))))))]
def z_Q (r : Option q_V) (_ : q_H) : Prop := r = some (.inl 1)
theorem q_widen {E : q_E} {M : q_M} {Q : Option q_V → q_H → Prop} {pc : Nat} {lo : q_Lo} {st : List q_V} {ce sl ce' sl' : Nat} {h : q_H} (h1 : ce ≤ ce') (h2 : sl ≤ sl') (k : q_W E M Q pc lo st ce' sl' h) : q_W E M Q pc lo st ce sl h := by
  intro p e R s m args below meth c A ad0 Z H locs ls stv C T Rt
  exact W.widen h1 h2 (k.go C T Rt)
/-- an int of the script -/
theorem z_rd {E : q_E} {pc i : Nat} {st : List q_V} {h : q_H} (n : Int) (j : Nat) (d0 : decode m_L.2.1 pc = .ok (.aload_n 0, 1)) (d1 : decode m_L.2.1 (pc + 1) = .ok (.iload_n 3, 1)) (d2 : decode m_L.2.1 (pc + 2) = .ok (.iconst n, 1)) (hv : Int32.ofInt n = nI j) (d3 : decode m_L.2.1 (pc + 3) = .ok (.iadd, 1)) (d4 : decode m_L.2.1 (pc + 4) = .ok (.iaload, 1)) (hj : i + j < E.2.2.2.2) (hl : E.2.2.2.2 ≤ 2560) (k : q_W E m_L z_Q (pc + 5) (z_l i) (.inl (E.2.2.2.1 (i + j)) :: st) 1000 50000 h) : q_W E m_L z_Q pc (z_l i) st 1000 50000 h := by
  refine q_aload_nq (k0 := 0) (i := 0) (a := 0) d0 rfl rfl ?_
  refine q_iload_ni (k0 := 3) (i := 3) (a := i) d1 rfl rfl ?_
  refine q_iconst (n := n) (a := j) d2 hv ?_
  refine q_iadd d3 ?_
  rw [Nat.mod_eq_of_lt (by omega)]
  refine q_sld0 d4 hj (by omega) ?_
  exact q_conv (y := .inl (E.2.2.2.1 (i + j))) (fun _ _ z => z) k
theorem z_cl {E : q_E} {pc idx n j r0 i : Nat} {as st : List q_V} {h : q_H} {Q' : Option q_V → q_H → Prop} (ci : Nat) (hd : decode m_L.2.1 pc = .ok (.invokevirtual idx, 3)) (ho : q_ok m_L (q_mt j) n) (hw : Cond.methodLink m_L.1.cls idx (q_mt j).1 ∈ q_gd) (hx : Cond.instanceMethod (q_mt j).1 ∈ q_gd ∧ Cond.selects (q_mt j).1.cls (q_mt j).1 (q_mt j).1 ∈ q_gd) (hs : x_sh h) (ht : x_tag r0 = ci + 5) (ht2 : ci + 5 < 99) (hcl : ∀ q : vw_C, q_cl[ci]? = some q → q.1 = (q_mt j).1.cls) (hn : as.length = n) (hwd : q_wd st ≤ 8) (hz : (q_mt j).2.2.2.2.cells = 0 ∧ (q_mt j).2.2.2.2.slots = 0) (hP : q_P E (q_mt j) (.inr (.inl r0) :: as) h Q') (k : ∀ r h', Q' r h' → q_W E m_L z_Q (pc + 3) (z_l i) (r.toList ++ st) 1000 50000 h') : q_W E m_L z_Q pc (z_l i) (as.reverse ++ .inr (.inl r0) :: st) 1000 50000 h := by
  refine q_callV hd ho hw hx (x_cell hs ht ht2).1 hcl hn hwd (by rw [hz.1]; decide) (by rw [hz.2]; decide) hP (fun r h' z => ?_)
  rw [hz.1, hz.2]
  exact k r h' z
theorem z_c0 {E : q_E} {i : Nat} (hE : ∀ k, E.2.2.2.1 k < 4294967296) (hi : i + 5 ≤ E.2.2.2.2) (hl : E.2.2.2.2 ≤ 2560) {h : q_H} (hI : z_LI h) (k : ∀ h, z_LI h → q_W E m_L z_Q 1014 (z_l i) [] 1000 50000 h) : q_W E m_L z_Q 160 (z_l i) [] 1000 50000 h := by
  refine q_aload_nr (k0 := 1) (i := 1) (a := 0) (by decide +kernel) rfl rfl ?_
  refine z_rd 1 1 (by decide +kernel) (by decide +kernel) (by decide +kernel) (by decide +kernel) (by decide +kernel) (by decide +kernel) (by omega) hl ?_
  refine z_cl (as := [.inl (E.2.2.2.1 (i + 1))]) (st := []) (n := 1) (j := 121) (r0 := 0) 8 (by decide +kernel) ⟨by decide +kernel, s_121⟩ w_437 ⟨w_438, w_439⟩ hI.1 rfl (by decide) (fun q hq => by cases hq; rfl) rfl (Nat.le_of_ble_eq_true rfl) ⟨rfl, rfl⟩ (z_p121 hI (hE _)) (fun r h' z => ?_)
  obtain ⟨n, z1, hs2, P2⟩ := z
  subst z1
  refine q_pop (by decide +kernel) rfl ?_
  refine q_aload_nr (k0 := 2) (i := 2) (a := 138) (by decide +kernel) rfl rfl ?_
  refine z_rd 1 1 (by decide +kernel) (by decide +kernel) (by decide +kernel) (by decide +kernel) (by decide +kernel) (by decide +kernel) (by omega) hl ?_
  refine z_cl (as := [.inl (E.2.2.2.1 (i + 1))]) (st := []) (n := 1) (j := 171) (r0 := 138) 9 (by decide +kernel) ⟨by decide +kernel, s_171⟩ w_1004 ⟨w_1005, w_1006⟩ hs2 rfl (by decide) (fun q hq => by cases hq; rfl) rfl (Nat.le_of_ble_eq_true rfl) ⟨rfl, rfl⟩ (P2) (fun r h' z => ?_)
  obtain ⟨z1, hI2⟩ := z
  subst z1
  refine q_pop (by decide +kernel) rfl ?_
  refine q_goto (off := 834) (tgt := 1014) (by decide +kernel) (by decide) ?_
  exact k _ hI2
theorem z_c1 {E : q_E} {i : Nat} (hE : ∀ k, E.2.2.2.1 k < 4294967296) (hi : i + 5 ≤ E.2.2.2.2) (hl : E.2.2.2.2 ≤ 2560) {h : q_H} (hI : z_LI h) (k : ∀ h, z_LI h → q_W E m_L z_Q 1014 (z_l i) [] 1000 50000 h) : q_W E m_L z_Q 183 (z_l i) [] 1000 50000 h := by
  refine q_aload_nr (k0 := 1) (i := 1) (a := 0) (by decide +kernel) rfl rfl ?_
  refine z_cl (as := []) (st := []) (n := 0) (j := 122) (r0 := 0) 8 (by decide +kernel) ⟨by decide +kernel, s_122⟩ w_445 ⟨w_446, w_447⟩ hI.1 rfl (by decide) (fun q hq => by cases hq; rfl) rfl (Nat.le_of_ble_eq_true rfl) ⟨rfl, rfl⟩ (z_p122 hI ) (fun r h' z => ?_)
  obtain ⟨n, z1, hs2, P2⟩ := z
  subst z1
  refine q_pop (by decide +kernel) rfl ?_
  refine q_aload_nr (k0 := 2) (i := 2) (a := 138) (by decide +kernel) rfl rfl ?_
  refine z_cl (as := []) (st := []) (n := 0) (j := 172) (r0 := 138) 9 (by decide +kernel) ⟨by decide +kernel, s_172⟩ w_1013 ⟨w_1014, w_1015⟩ hs2 rfl (by decide) (fun q hq => by cases hq; rfl) rfl (Nat.le_of_ble_eq_true rfl) ⟨rfl, rfl⟩ (P2) (fun r h' z => ?_)
  obtain ⟨z1, hI2⟩ := z
  subst z1
  refine q_pop (by decide +kernel) rfl ?_
  refine q_goto (off := 821) (tgt := 1014) (by decide +kernel) (by decide) ?_
  exact k _ hI2
theorem z_c2 {E : q_E} {i : Nat} (hE : ∀ k, E.2.2.2.1 k < 4294967296) (hi : i + 5 ≤ E.2.2.2.2) (hl : E.2.2.2.2 ≤ 2560) {h : q_H} (hI : z_LI h) (k : ∀ h, z_LI h → q_W E m_L z_Q 1014 (z_l i) [] 1000 50000 h) : q_W E m_L z_Q 196 (z_l i) [] 1000 50000 h := by
  refine q_aload_nr (k0 := 1) (i := 1) (a := 0) (by decide +kernel) rfl rfl ?_
  refine z_cl (as := []) (st := []) (n := 0) (j := 123) (r0 := 0) 8 (by decide +kernel) ⟨by decide +kernel, s_123⟩ w_449 ⟨w_450, w_451⟩ hI.1 rfl (by decide) (fun q hq => by cases hq; rfl) rfl (Nat.le_of_ble_eq_true rfl) ⟨rfl, rfl⟩ (z_p123 hI ) (fun r h' z => ?_)
  obtain ⟨n, z1, hs2, P2⟩ := z
  subst z1
  refine q_pop (by decide +kernel) rfl ?_
  refine q_aload_nr (k0 := 2) (i := 2) (a := 138) (by decide +kernel) rfl rfl ?_
  refine z_cl (as := []) (st := []) (n := 0) (j := 173) (r0 := 138) 9 (by decide +kernel) ⟨by decide +kernel, s_173⟩ w_1017 ⟨w_1018, w_1019⟩ hs2 rfl (by decide) (fun q hq => by cases hq; rfl) rfl (Nat.le_of_ble_eq_true rfl) ⟨rfl, rfl⟩ (P2) (fun r h' z => ?_)
  obtain ⟨z1, hI2⟩ := z
  subst z1
  refine q_pop (by decide +kernel) rfl ?_
  refine q_goto (off := 808) (tgt := 1014) (by decide +kernel) (by decide) ?_
  exact k _ hI2
theorem z_c3 {E : q_E} {i : Nat} (hE : ∀ k, E.2.2.2.1 k < 4294967296) (hi : i + 5 ≤ E.2.2.2.2) (hl : E.2.2.2.2 ≤ 2560) {h : q_H} (hI : z_LI h) (k : ∀ h, z_LI h → q_W E m_L z_Q 1014 (z_l i) [] 1000 50000 h) : q_W E m_L z_Q 209 (z_l i) [] 1000 50000 h := by
  refine q_aload_nr (k0 := 1) (i := 1) (a := 0) (by decide +kernel) rfl rfl ?_
  refine z_cl (as := []) (st := []) (n := 0) (j := 124) (r0 := 0) 8 (by decide +kernel) ⟨by decide +kernel, s_124⟩ w_453 ⟨w_454, w_455⟩ hI.1 rfl (by decide) (fun q hq => by cases hq; rfl) rfl (Nat.le_of_ble_eq_true rfl) ⟨rfl, rfl⟩ (z_p124 hI ) (fun r h' z => ?_)
  obtain ⟨n, z1, hs2, P2⟩ := z
  subst z1
  refine q_pop (by decide +kernel) rfl ?_
  refine q_aload_nr (k0 := 2) (i := 2) (a := 138) (by decide +kernel) rfl rfl ?_
  refine z_cl (as := []) (st := []) (n := 0) (j := 179) (r0 := 138) 9 (by decide +kernel) ⟨by decide +kernel, s_179⟩ w_1060 ⟨w_1061, w_1062⟩ hs2 rfl (by decide) (fun q hq => by cases hq; rfl) rfl (Nat.le_of_ble_eq_true rfl) ⟨rfl, rfl⟩ (P2) (fun r h' z => ?_)
  obtain ⟨z1, hI2⟩ := z
  subst z1
  refine q_pop (by decide +kernel) rfl ?_
  refine q_goto (off := 795) (tgt := 1014) (by decide +kernel) (by decide) ?_
  exact k _ hI2
theorem z_c4 {E : q_E} {i : Nat} (hE : ∀ k, E.2.2.2.1 k < 4294967296) (hi : i + 5 ≤ E.2.2.2.2) (hl : E.2.2.2.2 ≤ 2560) {h : q_H} (hI : z_LI h) (k : ∀ h, z_LI h → q_W E m_L z_Q 1014 (z_l i) [] 1000 50000 h) : q_W E m_L z_Q 222 (z_l i) [] 1000 50000 h := by
  refine q_aload_nr (k0 := 1) (i := 1) (a := 0) (by decide +kernel) rfl rfl ?_
  refine z_rd 1 1 (by decide +kernel) (by decide +kernel) (by decide +kernel) (by decide +kernel) (by decide +kernel) (by decide +kernel) (by omega) hl ?_
  refine z_rd 2 2 (by decide +kernel) (by decide +kernel) (by decide +kernel) (by decide +kernel) (by decide +kernel) (by decide +kernel) (by omega) hl ?_
  refine z_cl (as := [.inl (E.2.2.2.1 (i + 1)), .inl (E.2.2.2.1 (i + 2))]) (st := []) (n := 2) (j := 126) (r0 := 0) 8 (by decide +kernel) ⟨by decide +kernel, s_126⟩ w_473 ⟨w_474, w_475⟩ hI.1 rfl (by decide) (fun q hq => by cases hq; rfl) rfl (Nat.le_of_ble_eq_true rfl) ⟨rfl, rfl⟩ (z_p126 hI (hE _) (hE _)) (fun r h' z => ?_)
  obtain ⟨n, z1, hs2, P2⟩ := z
  subst z1
  refine q_pop (by decide +kernel) rfl ?_
  refine q_aload_nr (k0 := 2) (i := 2) (a := 138) (by decide +kernel) rfl rfl ?_
  refine z_rd 1 1 (by decide +kernel) (by decide +kernel) (by decide +kernel) (by decide +kernel) (by decide +kernel) (by decide +kernel) (by omega) hl ?_
  refine z_rd 2 2 (by decide +kernel) (by decide +kernel) (by decide +kernel) (by decide +kernel) (by decide +kernel) (by decide +kernel) (by omega) hl ?_
  refine z_cl (as := [.inl (E.2.2.2.1 (i + 1)), .inl (E.2.2.2.1 (i + 2))]) (st := []) (n := 2) (j := 180) (r0 := 138) 9 (by decide +kernel) ⟨by decide +kernel, s_180⟩ w_1064 ⟨w_1065, w_1066⟩ hs2 rfl (by decide) (fun q hq => by cases hq; rfl) rfl (Nat.le_of_ble_eq_true rfl) ⟨rfl, rfl⟩ (P2) (fun r h' z => ?_)
  obtain ⟨z1, hI2⟩ := z
  subst z1
  refine q_pop (by decide +kernel) rfl ?_
  refine q_goto (off := 762) (tgt := 1014) (by decide +kernel) (by decide) ?_
  exact k _ hI2
theorem z_c5 {E : q_E} {i : Nat} (hE : ∀ k, E.2.2.2.1 k < 4294967296) (hi : i + 5 ≤ E.2.2.2.2) (hl : E.2.2.2.2 ≤ 2560) {h : q_H} (hI : z_LI h) (k : ∀ h, z_LI h → q_W E m_L z_Q 1014 (z_l i) [] 1000 50000 h) : q_W E m_L z_Q 255 (z_l i) [] 1000 50000 h := by
  refine q_aload_nr (k0 := 1) (i := 1) (a := 0) (by decide +kernel) rfl rfl ?_
  refine z_rd 1 1 (by decide +kernel) (by decide +kernel) (by decide +kernel) (by decide +kernel) (by decide +kernel) (by decide +kernel) (by omega) hl ?_
  refine z_rd 2 2 (by decide +kernel) (by decide +kernel) (by decide +kernel) (by decide +kernel) (by decide +kernel) (by decide +kernel) (by omega) hl ?_
  refine z_rd 3 3 (by decide +kernel) (by decide +kernel) (by decide +kernel) (by decide +kernel) (by decide +kernel) (by decide +kernel) (by omega) hl ?_
  refine z_cl (as := [.inl (E.2.2.2.1 (i + 1)), .inl (E.2.2.2.1 (i + 2)), .inl (E.2.2.2.1 (i + 3))]) (st := []) (n := 3) (j := 127) (r0 := 0) 8 (by decide +kernel) ⟨by decide +kernel, s_127⟩ w_490 ⟨w_491, w_492⟩ hI.1 rfl (by decide) (fun q hq => by cases hq; rfl) rfl (Nat.le_of_ble_eq_true rfl) ⟨rfl, rfl⟩ (z_p127 hI (hE _) (hE _) (hE _)) (fun r h' z => ?_)
  obtain ⟨⟨n0, z1⟩, hI0⟩ := z
  subst z1
  refine q_pop (by decide +kernel) rfl ?_
  refine q_aload_nr (k0 := 2) (i := 2) (a := 138) (by decide +kernel) rfl rfl ?_
  refine z_rd 1 1 (by decide +kernel) (by decide +kernel) (by decide +kernel) (by decide +kernel) (by decide +kernel) (by decide +kernel) (by omega) hl ?_
  refine z_rd 2 2 (by decide +kernel) (by decide +kernel) (by decide +kernel) (by decide +kernel) (by decide +kernel) (by decide +kernel) (by omega) hl ?_
  refine z_rd 3 3 (by decide +kernel) (by decide +kernel) (by decide +kernel) (by decide +kernel) (by decide +kernel) (by decide +kernel) (by omega) hl ?_
  refine z_cl (as := [.inl (E.2.2.2.1 (i + 1)), .inl (E.2.2.2.1 (i + 2)), .inl (E.2.2.2.1 (i + 3))]) (st := []) (n := 3) (j := 181) (r0 := 138) 9 (by decide +kernel) ⟨by decide +kernel, s_181⟩ w_1072 ⟨w_1073, w_1074⟩ hI0.1 rfl (by decide) (fun q hq => by cases hq; rfl) rfl (Nat.le_of_ble_eq_true rfl) ⟨rfl, rfl⟩ (z_p181 hI0 (hE _) (hE _) (hE _)) (fun r h' z => ?_)
  obtain ⟨⟨n1, z1⟩, hI1⟩ := z
  subst z1
  refine q_pop (by decide +kernel) rfl ?_
  refine q_goto (off := 719) (tgt := 1014) (by decide +kernel) (by decide) ?_
  exact k _ hI1
theorem z_c6 {E : q_E} {i : Nat} (hE : ∀ k, E.2.2.2.1 k < 4294967296) (hi : i + 5 ≤ E.2.2.2.2) (hl : E.2.2.2.2 ≤ 2560) {h : q_H} (hI : z_LI h) (k : ∀ h, z_LI h → q_W E m_L z_Q 1014 (z_l i) [] 1000 50000 h) : q_W E m_L z_Q 298 (z_l i) [] 1000 50000 h := by
  refine q_aload_nr (k0 := 1) (i := 1) (a := 0) (by decide +kernel) rfl rfl ?_
  refine z_rd 1 1 (by decide +kernel) (by decide +kernel) (by decide +kernel) (by decide +kernel) (by decide +kernel) (by decide +kernel) (by omega) hl ?_
  refine z_rd 2 2 (by decide +kernel) (by decide +kernel) (by decide +kernel) (by decide +kernel) (by decide +kernel) (by decide +kernel) (by omega) hl ?_
  refine z_rd 3 3 (by decide +kernel) (by decide +kernel) (by decide +kernel) (by decide +kernel) (by decide +kernel) (by decide +kernel) (by omega) hl ?_
  refine z_cl (as := [.inl (E.2.2.2.1 (i + 1)), .inl (E.2.2.2.1 (i + 2)), .inl (E.2.2.2.1 (i + 3))]) (st := []) (n := 3) (j := 128) (r0 := 0) 8 (by decide +kernel) ⟨by decide +kernel, s_128⟩ w_517 ⟨w_518, w_519⟩ hI.1 rfl (by decide) (fun q hq => by cases hq; rfl) rfl (Nat.le_of_ble_eq_true rfl) ⟨rfl, rfl⟩ (z_p128 hI (hE _) (hE _) (hE _)) (fun r h' z => ?_)
  obtain ⟨n, z1, hs2, P2⟩ := z
  subst z1
  refine q_pop (by decide +kernel) rfl ?_
  refine q_aload_nr (k0 := 2) (i := 2) (a := 138) (by decide +kernel) rfl rfl ?_
  refine z_rd 1 1 (by decide +kernel) (by decide +kernel) (by decide +kernel) (by decide +kernel) (by decide +kernel) (by decide +kernel) (by omega) hl ?_
  refine z_rd 2 2 (by decide +kernel) (by decide +kernel) (by decide +kernel) (by decide +kernel) (by decide +kernel) (by decide +kernel) (by omega) hl ?_
  refine z_rd 3 3 (by decide +kernel) (by decide +kernel) (by decide +kernel) (by decide +kernel) (by decide +kernel) (by decide +kernel) (by omega) hl ?_
  refine z_cl (as := [.inl (E.2.2.2.1 (i + 1)), .inl (E.2.2.2.1 (i + 2)), .inl (E.2.2.2.1 (i + 3))]) (st := []) (n := 3) (j := 114) (r0 := 138) 9 (by decide +kernel) ⟨by decide +kernel, s_114⟩ w_1091 ⟨w_1092, w_1093⟩ hs2 rfl (by decide) (fun q hq => by cases hq; rfl) rfl (Nat.le_of_ble_eq_true rfl) ⟨rfl, rfl⟩ (P2) (fun r h' z => ?_)
  obtain ⟨z1, hI2⟩ := z
  subst z1
  refine q_pop (by decide +kernel) rfl ?_
  refine q_goto (off := 676) (tgt := 1014) (by decide +kernel) (by decide) ?_
  exact k _ hI2
theorem z_c7 {E : q_E} {i : Nat} (hE : ∀ k, E.2.2.2.1 k < 4294967296) (hi : i + 5 ≤ E.2.2.2.2) (hl : E.2.2.2.2 ≤ 2560) {h : q_H} (hI : z_LI h) (k : ∀ h, z_LI h → q_W E m_L z_Q 1014 (z_l i) [] 1000 50000 h) : q_W E m_L z_Q 341 (z_l i) [] 1000 50000 h := by
  refine q_aload_nr (k0 := 1) (i := 1) (a := 0) (by decide +kernel) rfl rfl ?_
  refine z_rd 1 1 (by decide +kernel) (by decide +kernel) (by decide +kernel) (by decide +kernel) (by decide +kernel) (by decide +kernel) (by omega) hl ?_
  refine z_rd 2 2 (by decide +kernel) (by decide +kernel) (by decide +kernel) (by decide +kernel) (by decide +kernel) (by decide +kernel) (by omega) hl ?_
  refine z_cl (as := [.inl (E.2.2.2.1 (i + 1)), .inl (E.2.2.2.1 (i + 2))]) (st := []) (n := 2) (j := 129) (r0 := 0) 8 (by decide +kernel) ⟨by decide +kernel, s_129⟩ w_523 ⟨w_524, w_525⟩ hI.1 rfl (by decide) (fun q hq => by cases hq; rfl) rfl (Nat.le_of_ble_eq_true rfl) ⟨rfl, rfl⟩ (z_p129 hI (hE _) (hE _)) (fun r h' z => ?_)
  obtain ⟨n, z1, hs2, P2⟩ := z
  subst z1
  refine q_pop (by decide +kernel) rfl ?_
  refine q_aload_nr (k0 := 2) (i := 2) (a := 138) (by decide +kernel) rfl rfl ?_
  refine z_rd 1 1 (by decide +kernel) (by decide +kernel) (by decide +kernel) (by decide +kernel) (by decide +kernel) (by decide +kernel) (by omega) hl ?_
  refine z_rd 2 2 (by decide +kernel) (by decide +kernel) (by decide +kernel) (by decide +kernel) (by decide +kernel) (by decide +kernel) (by omega) hl ?_
  refine z_cl (as := [.inl (E.2.2.2.1 (i + 1)), .inl (E.2.2.2.1 (i + 2))]) (st := []) (n := 2) (j := 182) (r0 := 138) 9 (by decide +kernel) ⟨by decide +kernel, s_182⟩ w_1096 ⟨w_1097, w_1098⟩ hs2 rfl (by decide) (fun q hq => by cases hq; rfl) rfl (Nat.le_of_ble_eq_true rfl) ⟨rfl, rfl⟩ (P2) (fun r h' z => ?_)
  obtain ⟨z1, hI2⟩ := z
  subst z1
  refine q_pop (by decide +kernel) rfl ?_
  refine q_goto (off := 643) (tgt := 1014) (by decide +kernel) (by decide) ?_
  exact k _ hI2
theorem z_c8 {E : q_E} {i : Nat} (hE : ∀ k, E.2.2.2.1 k < 4294967296) (hi : i + 5 ≤ E.2.2.2.2) (hl : E.2.2.2.2 ≤ 2560) {h : q_H} (hI : z_LI h) (k : ∀ h, z_LI h → q_W E m_L z_Q 1014 (z_l i) [] 1000 50000 h) : q_W E m_L z_Q 374 (z_l i) [] 1000 50000 h := by
  refine q_aload_nr (k0 := 1) (i := 1) (a := 0) (by decide +kernel) rfl rfl ?_
  refine z_rd 1 1 (by decide +kernel) (by decide +kernel) (by decide +kernel) (by decide +kernel) (by decide +kernel) (by decide +kernel) (by omega) hl ?_
  refine z_rd 2 2 (by decide +kernel) (by decide +kernel) (by decide +kernel) (by decide +kernel) (by decide +kernel) (by decide +kernel) (by omega) hl ?_
  refine z_cl (as := [.inl (E.2.2.2.1 (i + 1)), .inl (E.2.2.2.1 (i + 2))]) (st := []) (n := 2) (j := 130) (r0 := 0) 8 (by decide +kernel) ⟨by decide +kernel, s_130⟩ w_532 ⟨w_533, w_534⟩ hI.1 rfl (by decide) (fun q hq => by cases hq; rfl) rfl (Nat.le_of_ble_eq_true rfl) ⟨rfl, rfl⟩ (z_p130 hI (hE _) (hE _)) (fun r h' z => ?_)
  obtain ⟨n, z1, hs2, P2⟩ := z
  subst z1
  refine q_pop (by decide +kernel) rfl ?_
  refine q_aload_nr (k0 := 2) (i := 2) (a := 138) (by decide +kernel) rfl rfl ?_
  refine z_rd 1 1 (by decide +kernel) (by decide +kernel) (by decide +kernel) (by decide +kernel) (by decide +kernel) (by decide +kernel) (by omega) hl ?_
  refine z_rd 2 2 (by decide +kernel) (by decide +kernel) (by decide +kernel) (by decide +kernel) (by decide +kernel) (by decide +kernel) (by omega) hl ?_
  refine z_cl (as := [.inl (E.2.2.2.1 (i + 1)), .inl (E.2.2.2.1 (i + 2))]) (st := []) (n := 2) (j := 183) (r0 := 138) 9 (by decide +kernel) ⟨by decide +kernel, s_183⟩ w_1108 ⟨w_1109, w_1110⟩ hs2 rfl (by decide) (fun q hq => by cases hq; rfl) rfl (Nat.le_of_ble_eq_true rfl) ⟨rfl, rfl⟩ (P2) (fun r h' z => ?_)
  obtain ⟨z1, hI2⟩ := z
  subst z1
  refine q_pop (by decide +kernel) rfl ?_
  refine q_goto (off := 610) (tgt := 1014) (by decide +kernel) (by decide) ?_
  exact k _ hI2
theorem z_c9 {E : q_E} {i : Nat} (hE : ∀ k, E.2.2.2.1 k < 4294967296) (hi : i + 5 ≤ E.2.2.2.2) (hl : E.2.2.2.2 ≤ 2560) {h : q_H} (hI : z_LI h) (k : ∀ h, z_LI h → q_W E m_L z_Q 1014 (z_l i) [] 1000 50000 h) : q_W E m_L z_Q 407 (z_l i) [] 1000 50000 h := by
  refine q_aload_nr (k0 := 1) (i := 1) (a := 0) (by decide +kernel) rfl rfl ?_
  refine z_rd 1 1 (by decide +kernel) (by decide +kernel) (by decide +kernel) (by decide +kernel) (by decide +kernel) (by decide +kernel) (by omega) hl ?_
  refine z_cl (as := [.inl (E.2.2.2.1 (i + 1))]) (st := []) (n := 1) (j := 131) (r0 := 0) 8 (by decide +kernel) ⟨by decide +kernel, s_131⟩ w_540 ⟨w_541, w_542⟩ hI.1 rfl (by decide) (fun q hq => by cases hq; rfl) rfl (Nat.le_of_ble_eq_true rfl) ⟨rfl, rfl⟩ (z_p131 hI (hE _)) (fun r h' z => ?_)
  obtain ⟨n, z1, hs2, P2⟩ := z
  subst z1
  refine q_pop (by decide +kernel) rfl ?_
  refine q_aload_nr (k0 := 2) (i := 2) (a := 138) (by decide +kernel) rfl rfl ?_
  refine z_rd 1 1 (by decide +kernel) (by decide +kernel) (by decide +kernel) (by decide +kernel) (by decide +kernel) (by decide +kernel) (by omega) hl ?_
  refine z_cl (as := [.inl (E.2.2.2.1 (i + 1))]) (st := []) (n := 1) (j := 184) (r0 := 138) 9 (by decide +kernel) ⟨by decide +kernel, s_184⟩ w_1112 ⟨w_1113, w_1114⟩ hs2 rfl (by decide) (fun q hq => by cases hq; rfl) rfl (Nat.le_of_ble_eq_true rfl) ⟨rfl, rfl⟩ (P2) (fun r h' z => ?_)
  obtain ⟨⟨n', z1⟩, hI2⟩ := z
  subst z1
  refine q_pop (by decide +kernel) rfl ?_
  refine q_goto (off := 587) (tgt := 1014) (by decide +kernel) (by decide) ?_
  exact k _ hI2
theorem z_c10 {E : q_E} {i : Nat} (hE : ∀ k, E.2.2.2.1 k < 4294967296) (hi : i + 5 ≤ E.2.2.2.2) (hl : E.2.2.2.2 ≤ 2560) {h : q_H} (hI : z_LI h) (k : ∀ h, z_LI h → q_W E m_L z_Q 1014 (z_l i) [] 1000 50000 h) : q_W E m_L z_Q 430 (z_l i) [] 1000 50000 h := by
  refine q_aload_nr (k0 := 1) (i := 1) (a := 0) (by decide +kernel) rfl rfl ?_
  refine z_rd 1 1 (by decide +kernel) (by decide +kernel) (by decide +kernel) (by decide +kernel) (by decide +kernel) (by decide +kernel) (by omega) hl ?_
  refine z_cl (as := [.inl (E.2.2.2.1 (i + 1))]) (st := []) (n := 1) (j := 132) (r0 := 0) 8 (by decide +kernel) ⟨by decide +kernel, s_132⟩ w_564 ⟨w_565, w_566⟩ hI.1 rfl (by decide) (fun q hq => by cases hq; rfl) rfl (Nat.le_of_ble_eq_true rfl) ⟨rfl, rfl⟩ (z_p132 hI (hE _)) (fun r h' z => ?_)
  obtain ⟨n, z1, hs2, P2⟩ := z
  subst z1
  refine q_pop (by decide +kernel) rfl ?_
  refine q_aload_nr (k0 := 2) (i := 2) (a := 138) (by decide +kernel) rfl rfl ?_
  refine z_rd 1 1 (by decide +kernel) (by decide +kernel) (by decide +kernel) (by decide +kernel) (by decide +kernel) (by decide +kernel) (by omega) hl ?_
  refine z_cl (as := [.inl (E.2.2.2.1 (i + 1))]) (st := []) (n := 1) (j := 185) (r0 := 138) 9 (by decide +kernel) ⟨by decide +kernel, s_185⟩ w_1124 ⟨w_1125, w_1126⟩ hs2 rfl (by decide) (fun q hq => by cases hq; rfl) rfl (Nat.le_of_ble_eq_true rfl) ⟨rfl, rfl⟩ (P2) (fun r h' z => ?_)
  obtain ⟨z1, hI2⟩ := z
  subst z1
  refine q_pop (by decide +kernel) rfl ?_
  refine q_goto (off := 564) (tgt := 1014) (by decide +kernel) (by decide) ?_
  exact k _ hI2
theorem z_c11 {E : q_E} {i : Nat} (hE : ∀ k, E.2.2.2.1 k < 4294967296) (hi : i + 5 ≤ E.2.2.2.2) (hl : E.2.2.2.2 ≤ 2560) {h : q_H} (hI : z_LI h) (k : ∀ h, z_LI h → q_W E m_L z_Q 1014 (z_l i) [] 1000 50000 h) : q_W E m_L z_Q 453 (z_l i) [] 1000 50000 h := by
  refine q_aload_nr (k0 := 1) (i := 1) (a := 0) (by decide +kernel) rfl rfl ?_
  refine z_rd 1 1 (by decide +kernel) (by decide +kernel) (by decide +kernel) (by decide +kernel) (by decide +kernel) (by decide +kernel) (by omega) hl ?_
  refine z_rd 2 2 (by decide +kernel) (by decide +kernel) (by decide +kernel) (by decide +kernel) (by decide +kernel) (by decide +kernel) (by omega) hl ?_
  refine z_cl (as := [.inl (E.2.2.2.1 (i + 1)), .inl (E.2.2.2.1 (i + 2))]) (st := []) (n := 2) (j := 133) (r0 := 0) 8 (by decide +kernel) ⟨by decide +kernel, s_133⟩ w_573 ⟨w_574, w_575⟩ hI.1 rfl (by decide) (fun q hq => by cases hq; rfl) rfl (Nat.le_of_ble_eq_true rfl) ⟨rfl, rfl⟩ (z_p133 hI (hE _) (hE _)) (fun r h' z => ?_)
  obtain ⟨n, z1, hs2, P2⟩ := z
  subst z1
  refine q_pop (by decide +kernel) rfl ?_
  refine q_aload_nr (k0 := 2) (i := 2) (a := 138) (by decide +kernel) rfl rfl ?_
  refine z_rd 1 1 (by decide +kernel) (by decide +kernel) (by decide +kernel) (by decide +kernel) (by decide +kernel) (by decide +kernel) (by omega) hl ?_
  refine z_rd 2 2 (by decide +kernel) (by decide +kernel) (by decide +kernel) (by decide +kernel) (by decide +kernel) (by decide +kernel) (by omega) hl ?_
  refine z_cl (as := [.inl (E.2.2.2.1 (i + 1)), .inl (E.2.2.2.1 (i + 2))]) (st := []) (n := 2) (j := 186) (r0 := 138) 9 (by decide +kernel) ⟨by decide +kernel, s_186⟩ w_1132 ⟨w_1133, w_1134⟩ hs2 rfl (by decide) (fun q hq => by cases hq; rfl) rfl (Nat.le_of_ble_eq_true rfl) ⟨rfl, rfl⟩ (P2) (fun r h' z => ?_)
  obtain ⟨z1, hI2⟩ := z
  subst z1
  refine q_pop (by decide +kernel) rfl ?_
  refine q_goto (off := 531) (tgt := 1014) (by decide +kernel) (by decide) ?_
  exact k _ hI2
theorem z_c12 {E : q_E} {i : Nat} (hE : ∀ k, E.2.2.2.1 k < 4294967296) (hi : i + 5 ≤ E.2.2.2.2) (hl : E.2.2.2.2 ≤ 2560) {h : q_H} (hI : z_LI h) (k : ∀ h, z_LI h → q_W E m_L z_Q 1014 (z_l i) [] 1000 50000 h) : q_W E m_L z_Q 486 (z_l i) [] 1000 50000 h := by
  refine q_aload_nr (k0 := 1) (i := 1) (a := 0) (by decide +kernel) rfl rfl ?_
  refine z_rd 1 1 (by decide +kernel) (by decide +kernel) (by decide +kernel) (by decide +kernel) (by decide +kernel) (by decide +kernel) (by omega) hl ?_
  refine z_rd 2 2 (by decide +kernel) (by decide +kernel) (by decide +kernel) (by decide +kernel) (by decide +kernel) (by decide +kernel) (by omega) hl ?_
  refine z_rd 3 3 (by decide +kernel) (by decide +kernel) (by decide +kernel) (by decide +kernel) (by decide +kernel) (by decide +kernel) (by omega) hl ?_
  refine z_cl (as := [.inl (E.2.2.2.1 (i + 1)), .inl (E.2.2.2.1 (i + 2)), .inl (E.2.2.2.1 (i + 3))]) (st := []) (n := 3) (j := 134) (r0 := 0) 8 (by decide +kernel) ⟨by decide +kernel, s_134⟩ w_584 ⟨w_585, w_586⟩ hI.1 rfl (by decide) (fun q hq => by cases hq; rfl) rfl (Nat.le_of_ble_eq_true rfl) ⟨rfl, rfl⟩ (z_p134 hI (hE _) (hE _) (hE _)) (fun r h' z => ?_)
  obtain ⟨n, z1, hs2, P2⟩ := z
  subst z1
  refine q_pop (by decide +kernel) rfl ?_
  refine q_aload_nr (k0 := 2) (i := 2) (a := 138) (by decide +kernel) rfl rfl ?_
  refine z_rd 1 1 (by decide +kernel) (by decide +kernel) (by decide +kernel) (by decide +kernel) (by decide +kernel) (by decide +kernel) (by omega) hl ?_
  refine z_rd 2 2 (by decide +kernel) (by decide +kernel) (by decide +kernel) (by decide +kernel) (by decide +kernel) (by decide +kernel) (by omega) hl ?_
  refine z_rd 3 3 (by decide +kernel) (by decide +kernel) (by decide +kernel) (by decide +kernel) (by decide +kernel) (by decide +kernel) (by omega) hl ?_
  refine z_cl (as := [.inl (E.2.2.2.1 (i + 1)), .inl (E.2.2.2.1 (i + 2)), .inl (E.2.2.2.1 (i + 3))]) (st := []) (n := 3) (j := 187) (r0 := 138) 9 (by decide +kernel) ⟨by decide +kernel, s_187⟩ w_1136 ⟨w_1137, w_1138⟩ hs2 rfl (by decide) (fun q hq => by cases hq; rfl) rfl (Nat.le_of_ble_eq_true rfl) ⟨rfl, rfl⟩ (P2) (fun r h' z => ?_)
  obtain ⟨z1, hI2⟩ := z
  subst z1
  refine q_pop (by decide +kernel) rfl ?_
  refine q_goto (off := 488) (tgt := 1014) (by decide +kernel) (by decide) ?_
  exact k _ hI2
theorem z_c13 {E : q_E} {i : Nat} (hE : ∀ k, E.2.2.2.1 k < 4294967296) (hi : i + 5 ≤ E.2.2.2.2) (hl : E.2.2.2.2 ≤ 2560) {h : q_H} (hI : z_LI h) (k : ∀ h, z_LI h → q_W E m_L z_Q 1014 (z_l i) [] 1000 50000 h) : q_W E m_L z_Q 529 (z_l i) [] 1000 50000 h := by
  refine q_aload_nr (k0 := 1) (i := 1) (a := 0) (by decide +kernel) rfl rfl ?_
  refine z_rd 1 1 (by decide +kernel) (by decide +kernel) (by decide +kernel) (by decide +kernel) (by decide +kernel) (by decide +kernel) (by omega) hl ?_
  refine z_rd 2 2 (by decide +kernel) (by decide +kernel) (by decide +kernel) (by decide +kernel) (by decide +kernel) (by decide +kernel) (by omega) hl ?_
  refine z_rd 3 3 (by decide +kernel) (by decide +kernel) (by decide +kernel) (by decide +kernel) (by decide +kernel) (by decide +kernel) (by omega) hl ?_
  refine z_cl (as := [.inl (E.2.2.2.1 (i + 1)), .inl (E.2.2.2.1 (i + 2)), .inl (E.2.2.2.1 (i + 3))]) (st := []) (n := 3) (j := 136) (r0 := 0) 8 (by decide +kernel) ⟨by decide +kernel, s_136⟩ w_592 ⟨w_593, w_594⟩ hI.1 rfl (by decide) (fun q hq => by cases hq; rfl) rfl (Nat.le_of_ble_eq_true rfl) ⟨rfl, rfl⟩ (z_p136 hI (hE _) (hE _) (hE _)) (fun r h' z => ?_)
  obtain ⟨n, z1, hs2, P2⟩ := z
  subst z1
  refine q_pop (by decide +kernel) rfl ?_
  refine q_aload_nr (k0 := 2) (i := 2) (a := 138) (by decide +kernel) rfl rfl ?_
  refine z_rd 1 1 (by decide +kernel) (by decide +kernel) (by decide +kernel) (by decide +kernel) (by decide +kernel) (by decide +kernel) (by omega) hl ?_
  refine z_rd 2 2 (by decide +kernel) (by decide +kernel) (by decide +kernel) (by decide +kernel) (by decide +kernel) (by decide +kernel) (by omega) hl ?_
  refine z_rd 3 3 (by decide +kernel) (by decide +kernel) (by decide +kernel) (by decide +kernel) (by decide +kernel) (by decide +kernel) (by omega) hl ?_
  refine z_cl (as := [.inl (E.2.2.2.1 (i + 1)), .inl (E.2.2.2.1 (i + 2)), .inl (E.2.2.2.1 (i + 3))]) (st := []) (n := 3) (j := 188) (r0 := 138) 9 (by decide +kernel) ⟨by decide +kernel, s_188⟩ w_1140 ⟨w_1141, w_1142⟩ hs2 rfl (by decide) (fun q hq => by cases hq; rfl) rfl (Nat.le_of_ble_eq_true rfl) ⟨rfl, rfl⟩ (P2) (fun r h' z => ?_)
  obtain ⟨z1, hI2⟩ := z
  subst z1
  refine q_pop (by decide +kernel) rfl ?_
  refine q_goto (off := 445) (tgt := 1014) (by decide +kernel) (by decide) ?_
  exact k _ hI2
theorem z_c14 {E : q_E} {i : Nat} (hE : ∀ k, E.2.2.2.1 k < 4294967296) (hi : i + 5 ≤ E.2.2.2.2) (hl : E.2.2.2.2 ≤ 2560) {h : q_H} (hI : z_LI h) (k : ∀ h, z_LI h → q_W E m_L z_Q 1014 (z_l i) [] 1000 50000 h) : q_W E m_L z_Q 572 (z_l i) [] 1000 50000 h := by
  refine q_aload_nr (k0 := 1) (i := 1) (a := 0) (by decide +kernel) rfl rfl ?_
  refine z_rd 1 1 (by decide +kernel) (by decide +kernel) (by decide +kernel) (by decide +kernel) (by decide +kernel) (by decide +kernel) (by omega) hl ?_
  refine z_rd 2 2 (by decide +kernel) (by decide +kernel) (by decide +kernel) (by decide +kernel) (by decide +kernel) (by decide +kernel) (by omega) hl ?_
  refine z_cl (as := [.inl (E.2.2.2.1 (i + 1)), .inl (E.2.2.2.1 (i + 2))]) (st := []) (n := 2) (j := 137) (r0 := 0) 8 (by decide +kernel) ⟨by decide +kernel, s_137⟩ w_597 ⟨w_598, w_599⟩ hI.1 rfl (by decide) (fun q hq => by cases hq; rfl) rfl (Nat.le_of_ble_eq_true rfl) ⟨rfl, rfl⟩ (z_p137 hI (hE _) (hE _)) (fun r h' z => ?_)
  obtain ⟨n, z1, hs2, P2⟩ := z
  subst z1
  refine q_pop (by decide +kernel) rfl ?_
  refine q_aload_nr (k0 := 2) (i := 2) (a := 138) (by decide +kernel) rfl rfl ?_
  refine z_rd 1 1 (by decide +kernel) (by decide +kernel) (by decide +kernel) (by decide +kernel) (by decide +kernel) (by decide +kernel) (by omega) hl ?_
  refine z_rd 2 2 (by decide +kernel) (by decide +kernel) (by decide +kernel) (by decide +kernel) (by decide +kernel) (by decide +kernel) (by omega) hl ?_
  refine z_cl (as := [.inl (E.2.2.2.1 (i + 1)), .inl (E.2.2.2.1 (i + 2))]) (st := []) (n := 2) (j := 189) (r0 := 138) 9 (by decide +kernel) ⟨by decide +kernel, s_189⟩ w_1145 ⟨w_1146, w_1147⟩ hs2 rfl (by decide) (fun q hq => by cases hq; rfl) rfl (Nat.le_of_ble_eq_true rfl) ⟨rfl, rfl⟩ (P2) (fun r h' z => ?_)
  obtain ⟨z1, hI2⟩ := z
  subst z1
  refine q_pop (by decide +kernel) rfl ?_
  refine q_goto (off := 412) (tgt := 1014) (by decide +kernel) (by decide) ?_
  exact k _ hI2
theorem z_c15 {E : q_E} {i : Nat} (hE : ∀ k, E.2.2.2.1 k < 4294967296) (hi : i + 5 ≤ E.2.2.2.2) (hl : E.2.2.2.2 ≤ 2560) {h : q_H} (hI : z_LI h) (k : ∀ h, z_LI h → q_W E m_L z_Q 1014 (z_l i) [] 1000 50000 h) : q_W E m_L z_Q 605 (z_l i) [] 1000 50000 h := by
  refine q_aload_nr (k0 := 1) (i := 1) (a := 0) (by decide +kernel) rfl rfl ?_
  refine z_cl (as := []) (st := []) (n := 0) (j := 138) (r0 := 0) 8 (by decide +kernel) ⟨by decide +kernel, s_138⟩ w_603 ⟨w_604, w_605⟩ hI.1 rfl (by decide) (fun q hq => by cases hq; rfl) rfl (Nat.le_of_ble_eq_true rfl) ⟨rfl, rfl⟩ (z_p138 hI ) (fun r h' z => ?_)
  obtain ⟨n, z1, hs2, P2⟩ := z
  subst z1
  refine q_pop (by decide +kernel) rfl ?_
  refine q_aload_nr (k0 := 2) (i := 2) (a := 138) (by decide +kernel) rfl rfl ?_
  refine z_cl (as := []) (st := []) (n := 0) (j := 190) (r0 := 138) 9 (by decide +kernel) ⟨by decide +kernel, s_190⟩ w_1150 ⟨w_1151, w_1152⟩ hs2 rfl (by decide) (fun q hq => by cases hq; rfl) rfl (Nat.le_of_ble_eq_true rfl) ⟨rfl, rfl⟩ (P2) (fun r h' z => ?_)
  obtain ⟨z1, hI2⟩ := z
  subst z1
  refine q_pop (by decide +kernel) rfl ?_
  refine q_goto (off := 399) (tgt := 1014) (by decide +kernel) (by decide) ?_
  exact k _ hI2
theorem z_c16 {E : q_E} {i : Nat} (hE : ∀ k, E.2.2.2.1 k < 4294967296) (hi : i + 5 ≤ E.2.2.2.2) (hl : E.2.2.2.2 ≤ 2560) {h : q_H} (hI : z_LI h) (k : ∀ h, z_LI h → q_W E m_L z_Q 1014 (z_l i) [] 1000 50000 h) : q_W E m_L z_Q 618 (z_l i) [] 1000 50000 h := by
  refine q_aload_nr (k0 := 1) (i := 1) (a := 0) (by decide +kernel) rfl rfl ?_
  refine z_rd 1 1 (by decide +kernel) (by decide +kernel) (by decide +kernel) (by decide +kernel) (by decide +kernel) (by decide +kernel) (by omega) hl ?_
  refine z_rd 2 2 (by decide +kernel) (by decide +kernel) (by decide +kernel) (by decide +kernel) (by decide +kernel) (by decide +kernel) (by omega) hl ?_
  refine z_rd 3 3 (by decide +kernel) (by decide +kernel) (by decide +kernel) (by decide +kernel) (by decide +kernel) (by decide +kernel) (by omega) hl ?_
  refine z_rd 4 4 (by decide +kernel) (by decide +kernel) (by decide +kernel) (by decide +kernel) (by decide +kernel) (by decide +kernel) (by omega) hl ?_
  refine z_cl (as := [.inl (E.2.2.2.1 (i + 1)), .inl (E.2.2.2.1 (i + 2)), .inl (E.2.2.2.1 (i + 3)), .inl (E.2.2.2.1 (i + 4))]) (st := []) (n := 4) (j := 140) (r0 := 0) 8 (by decide +kernel) ⟨by decide +kernel, s_140⟩ w_611 ⟨w_612, w_613⟩ hI.1 rfl (by decide) (fun q hq => by cases hq; rfl) rfl (Nat.le_of_ble_eq_true rfl) ⟨rfl, rfl⟩ (z_p140 hI (hE _) (hE _) (hE _) (hE _)) (fun r h' z => ?_)
  obtain ⟨⟨n0, z1⟩, hI0⟩ := z
  subst z1
  refine q_pop (by decide +kernel) rfl ?_
  refine q_aload_nr (k0 := 2) (i := 2) (a := 138) (by decide +kernel) rfl rfl ?_
  refine z_rd 1 1 (by decide +kernel) (by decide +kernel) (by decide +kernel) (by decide +kernel) (by decide +kernel) (by decide +kernel) (by omega) hl ?_
  refine z_rd 2 2 (by decide +kernel) (by decide +kernel) (by decide +kernel) (by decide +kernel) (by decide +kernel) (by decide +kernel) (by omega) hl ?_
  refine z_rd 3 3 (by decide +kernel) (by decide +kernel) (by decide +kernel) (by decide +kernel) (by decide +kernel) (by decide +kernel) (by omega) hl ?_
  refine z_rd 4 4 (by decide +kernel) (by decide +kernel) (by decide +kernel) (by decide +kernel) (by decide +kernel) (by decide +kernel) (by omega) hl ?_
  refine z_cl (as := [.inl (E.2.2.2.1 (i + 1)), .inl (E.2.2.2.1 (i + 2)), .inl (E.2.2.2.1 (i + 3)), .inl (E.2.2.2.1 (i + 4))]) (st := []) (n := 4) (j := 191) (r0 := 138) 9 (by decide +kernel) ⟨by decide +kernel, s_191⟩ w_1154 ⟨w_1155, w_1156⟩ hI0.1 rfl (by decide) (fun q hq => by cases hq; rfl) rfl (Nat.le_of_ble_eq_true rfl) ⟨rfl, rfl⟩ (z_p191 hI0 (hE _) (hE _) (hE _) (hE _)) (fun r h' z => ?_)
  obtain ⟨⟨n1, z1⟩, hI1⟩ := z
  subst z1
  refine q_pop (by decide +kernel) rfl ?_
  refine q_goto (off := 346) (tgt := 1014) (by decide +kernel) (by decide) ?_
  exact k _ hI1
theorem z_c17 {E : q_E} {i : Nat} (hE : ∀ k, E.2.2.2.1 k < 4294967296) (hi : i + 5 ≤ E.2.2.2.2) (hl : E.2.2.2.2 ≤ 2560) {h : q_H} (hI : z_LI h) (k : ∀ h, z_LI h → q_W E m_L z_Q 1014 (z_l i) [] 1000 50000 h) : q_W E m_L z_Q 671 (z_l i) [] 1000 50000 h := by
  refine q_aload_nr (k0 := 1) (i := 1) (a := 0) (by decide +kernel) rfl rfl ?_
  refine z_rd 1 1 (by decide +kernel) (by decide +kernel) (by decide +kernel) (by decide +kernel) (by decide +kernel) (by decide +kernel) (by omega) hl ?_
  refine z_rd 2 2 (by decide +kernel) (by decide +kernel) (by decide +kernel) (by decide +kernel) (by decide +kernel) (by decide +kernel) (by omega) hl ?_
  refine z_cl (as := [.inl (E.2.2.2.1 (i + 1)), .inl (E.2.2.2.1 (i + 2))]) (st := []) (n := 2) (j := 153) (r0 := 0) 8 (by decide +kernel) ⟨by decide +kernel, s_153⟩ w_725 ⟨w_726, w_727⟩ hI.1 rfl (by decide) (fun q hq => by cases hq; rfl) rfl (Nat.le_of_ble_eq_true rfl) ⟨rfl, rfl⟩ (z_p153 hI (hE _) (hE _)) (fun r h' z => ?_)
  obtain ⟨⟨n0, z1⟩, hI0⟩ := z
  subst z1
  refine q_pop (by decide +kernel) rfl ?_
  refine q_aload_nr (k0 := 2) (i := 2) (a := 138) (by decide +kernel) rfl rfl ?_
  refine z_rd 1 1 (by decide +kernel) (by decide +kernel) (by decide +kernel) (by decide +kernel) (by decide +kernel) (by decide +kernel) (by omega) hl ?_
  refine z_rd 2 2 (by decide +kernel) (by decide +kernel) (by decide +kernel) (by decide +kernel) (by decide +kernel) (by decide +kernel) (by omega) hl ?_
  refine z_cl (as := [.inl (E.2.2.2.1 (i + 1)), .inl (E.2.2.2.1 (i + 2))]) (st := []) (n := 2) (j := 192) (r0 := 138) 9 (by decide +kernel) ⟨by decide +kernel, s_192⟩ w_1178 ⟨w_1179, w_1180⟩ hI0.1 rfl (by decide) (fun q hq => by cases hq; rfl) rfl (Nat.le_of_ble_eq_true rfl) ⟨rfl, rfl⟩ (z_p192 hI0 (hE _) (hE _)) (fun r h' z => ?_)
  obtain ⟨⟨n1, z1⟩, hI1⟩ := z
  subst z1
  refine q_pop (by decide +kernel) rfl ?_
  refine q_goto (off := 313) (tgt := 1014) (by decide +kernel) (by decide) ?_
  exact k _ hI1
theorem z_c18 {E : q_E} {i : Nat} (hE : ∀ k, E.2.2.2.1 k < 4294967296) (hi : i + 5 ≤ E.2.2.2.2) (hl : E.2.2.2.2 ≤ 2560) {h : q_H} (hI : z_LI h) (k : ∀ h, z_LI h → q_W E m_L z_Q 1014 (z_l i) [] 1000 50000 h) : q_W E m_L z_Q 704 (z_l i) [] 1000 50000 h := by
  refine q_aload_nr (k0 := 1) (i := 1) (a := 0) (by decide +kernel) rfl rfl ?_
  refine z_rd 1 1 (by decide +kernel) (by decide +kernel) (by decide +kernel) (by decide +kernel) (by decide +kernel) (by decide +kernel) (by omega) hl ?_
  refine z_rd 2 2 (by decide +kernel) (by decide +kernel) (by decide +kernel) (by decide +kernel) (by decide +kernel) (by decide +kernel) (by omega) hl ?_
  refine z_cl (as := [.inl (E.2.2.2.1 (i + 1)), .inl (E.2.2.2.1 (i + 2))]) (st := []) (n := 2) (j := 155) (r0 := 0) 8 (by decide +kernel) ⟨by decide +kernel, s_155⟩ w_735 ⟨w_736, w_737⟩ hI.1 rfl (by decide) (fun q hq => by cases hq; rfl) rfl (Nat.le_of_ble_eq_true rfl) ⟨rfl, rfl⟩ (z_p155 hI (hE _) (hE _)) (fun r h' z => ?_)
  obtain ⟨⟨n0, z1⟩, hI0⟩ := z
  subst z1
  refine q_pop (by decide +kernel) rfl ?_
  refine q_aload_nr (k0 := 2) (i := 2) (a := 138) (by decide +kernel) rfl rfl ?_
  refine z_rd 1 1 (by decide +kernel) (by decide +kernel) (by decide +kernel) (by decide +kernel) (by decide +kernel) (by decide +kernel) (by omega) hl ?_
  refine z_rd 2 2 (by decide +kernel) (by decide +kernel) (by decide +kernel) (by decide +kernel) (by decide +kernel) (by decide +kernel) (by omega) hl ?_
  refine z_cl (as := [.inl (E.2.2.2.1 (i + 1)), .inl (E.2.2.2.1 (i + 2))]) (st := []) (n := 2) (j := 193) (r0 := 138) 9 (by decide +kernel) ⟨by decide +kernel, s_193⟩ w_1182 ⟨w_1183, w_1184⟩ hI0.1 rfl (by decide) (fun q hq => by cases hq; rfl) rfl (Nat.le_of_ble_eq_true rfl) ⟨rfl, rfl⟩ (z_p193 hI0 (hE _) (hE _)) (fun r h' z => ?_)
  obtain ⟨⟨n1, z1⟩, hI1⟩ := z
  subst z1
  refine q_pop (by decide +kernel) rfl ?_
  refine q_goto (off := 280) (tgt := 1014) (by decide +kernel) (by decide) ?_
  exact k _ hI1
theorem z_c19 {E : q_E} {i : Nat} (hE : ∀ k, E.2.2.2.1 k < 4294967296) (hi : i + 5 ≤ E.2.2.2.2) (hl : E.2.2.2.2 ≤ 2560) {h : q_H} (hI : z_LI h) (k : ∀ h, z_LI h → q_W E m_L z_Q 1014 (z_l i) [] 1000 50000 h) : q_W E m_L z_Q 737 (z_l i) [] 1000 50000 h := by
  refine q_aload_nr (k0 := 1) (i := 1) (a := 0) (by decide +kernel) rfl rfl ?_
  refine z_rd 1 1 (by decide +kernel) (by decide +kernel) (by decide +kernel) (by decide +kernel) (by decide +kernel) (by decide +kernel) (by omega) hl ?_
  refine z_rd 2 2 (by decide +kernel) (by decide +kernel) (by decide +kernel) (by decide +kernel) (by decide +kernel) (by decide +kernel) (by omega) hl ?_
  refine z_cl (as := [.inl (E.2.2.2.1 (i + 1)), .inl (E.2.2.2.1 (i + 2))]) (st := []) (n := 2) (j := 156) (r0 := 0) 8 (by decide +kernel) ⟨by decide +kernel, s_156⟩ w_744 ⟨w_745, w_746⟩ hI.1 rfl (by decide) (fun q hq => by cases hq; rfl) rfl (Nat.le_of_ble_eq_true rfl) ⟨rfl, rfl⟩ (z_p156 hI (hE _) (hE _)) (fun r h' z => ?_)
  obtain ⟨n, z1, hs2, P2⟩ := z
  subst z1
  refine q_pop (by decide +kernel) rfl ?_
  refine q_aload_nr (k0 := 2) (i := 2) (a := 138) (by decide +kernel) rfl rfl ?_
  refine z_rd 1 1 (by decide +kernel) (by decide +kernel) (by decide +kernel) (by decide +kernel) (by decide +kernel) (by decide +kernel) (by omega) hl ?_
  refine z_rd 2 2 (by decide +kernel) (by decide +kernel) (by decide +kernel) (by decide +kernel) (by decide +kernel) (by decide +kernel) (by omega) hl ?_
  refine z_cl (as := [.inl (E.2.2.2.1 (i + 1)), .inl (E.2.2.2.1 (i + 2))]) (st := []) (n := 2) (j := 197) (r0 := 138) 9 (by decide +kernel) ⟨by decide +kernel, s_197⟩ w_1206 ⟨w_1207, w_1208⟩ hs2 rfl (by decide) (fun q hq => by cases hq; rfl) rfl (Nat.le_of_ble_eq_true rfl) ⟨rfl, rfl⟩ (P2) (fun r h' z => ?_)
  obtain ⟨z1, hI2⟩ := z
  subst z1
  refine q_pop (by decide +kernel) rfl ?_
  refine q_goto (off := 247) (tgt := 1014) (by decide +kernel) (by decide) ?_
  exact k _ hI2
theorem z_c20 {E : q_E} {i : Nat} (hE : ∀ k, E.2.2.2.1 k < 4294967296) (hi : i + 5 ≤ E.2.2.2.2) (hl : E.2.2.2.2 ≤ 2560) {h : q_H} (hI : z_LI h) (k : ∀ h, z_LI h → q_W E m_L z_Q 1014 (z_l i) [] 1000 50000 h) : q_W E m_L z_Q 770 (z_l i) [] 1000 50000 h := by
  refine q_aload_nr (k0 := 1) (i := 1) (a := 0) (by decide +kernel) rfl rfl ?_
  refine z_rd 1 1 (by decide +kernel) (by decide +kernel) (by decide +kernel) (by decide +kernel) (by decide +kernel) (by decide +kernel) (by omega) hl ?_
  refine z_rd 2 2 (by decide +kernel) (by decide +kernel) (by decide +kernel) (by decide +kernel) (by decide +kernel) (by decide +kernel) (by omega) hl ?_
  refine z_rd 3 3 (by decide +kernel) (by decide +kernel) (by decide +kernel) (by decide +kernel) (by decide +kernel) (by decide +kernel) (by omega) hl ?_
  refine z_cl (as := [.inl (E.2.2.2.1 (i + 1)), .inl (E.2.2.2.1 (i + 2)), .inl (E.2.2.2.1 (i + 3))]) (st := []) (n := 3) (j := 158) (r0 := 0) 8 (by decide +kernel) ⟨by decide +kernel, s_158⟩ w_761 ⟨w_762, w_763⟩ hI.1 rfl (by decide) (fun q hq => by cases hq; rfl) rfl (Nat.le_of_ble_eq_true rfl) ⟨rfl, rfl⟩ (z_p158 hI (hE _) (hE _) (hE _)) (fun r h' z => ?_)
  obtain ⟨⟨n0, z1⟩, hI0⟩ := z
  subst z1
  refine q_pop (by decide +kernel) rfl ?_
  refine q_aload_nr (k0 := 2) (i := 2) (a := 138) (by decide +kernel) rfl rfl ?_
  refine z_rd 1 1 (by decide +kernel) (by decide +kernel) (by decide +kernel) (by decide +kernel) (by decide +kernel) (by decide +kernel) (by omega) hl ?_
  refine z_rd 2 2 (by decide +kernel) (by decide +kernel) (by decide +kernel) (by decide +kernel) (by decide +kernel) (by decide +kernel) (by omega) hl ?_
  refine z_rd 3 3 (by decide +kernel) (by decide +kernel) (by decide +kernel) (by decide +kernel) (by decide +kernel) (by decide +kernel) (by omega) hl ?_
  refine z_cl (as := [.inl (E.2.2.2.1 (i + 1)), .inl (E.2.2.2.1 (i + 2)), .inl (E.2.2.2.1 (i + 3))]) (st := []) (n := 3) (j := 198) (r0 := 138) 9 (by decide +kernel) ⟨by decide +kernel, s_198⟩ w_1210 ⟨w_1211, w_1212⟩ hI0.1 rfl (by decide) (fun q hq => by cases hq; rfl) rfl (Nat.le_of_ble_eq_true rfl) ⟨rfl, rfl⟩ (z_p198 hI0 (hE _) (hE _) (hE _)) (fun r h' z => ?_)
  obtain ⟨⟨n1, z1⟩, hI1⟩ := z
  subst z1
  refine q_pop (by decide +kernel) rfl ?_
  refine q_goto (off := 204) (tgt := 1014) (by decide +kernel) (by decide) ?_
  exact k _ hI1
theorem z_c21 {E : q_E} {i : Nat} (hE : ∀ k, E.2.2.2.1 k < 4294967296) (hi : i + 5 ≤ E.2.2.2.2) (hl : E.2.2.2.2 ≤ 2560) {h : q_H} (hI : z_LI h) (k : ∀ h, z_LI h → q_W E m_L z_Q 1014 (z_l i) [] 1000 50000 h) : q_W E m_L z_Q 813 (z_l i) [] 1000 50000 h := by
  refine q_aload_nr (k0 := 1) (i := 1) (a := 0) (by decide +kernel) rfl rfl ?_
  refine z_rd 1 1 (by decide +kernel) (by decide +kernel) (by decide +kernel) (by decide +kernel) (by decide +kernel) (by decide +kernel) (by omega) hl ?_
  refine z_cl (as := [.inl (E.2.2.2.1 (i + 1))]) (st := []) (n := 1) (j := 159) (r0 := 0) 8 (by decide +kernel) ⟨by decide +kernel, s_159⟩ w_769 ⟨w_770, w_771⟩ hI.1 rfl (by decide) (fun q hq => by cases hq; rfl) rfl (Nat.le_of_ble_eq_true rfl) ⟨rfl, rfl⟩ (z_p159 hI (hE _)) (fun r h' z => ?_)
  obtain ⟨⟨n0, z1⟩, hI0⟩ := z
  subst z1
  refine q_pop (by decide +kernel) rfl ?_
  refine q_aload_nr (k0 := 2) (i := 2) (a := 138) (by decide +kernel) rfl rfl ?_
  refine z_rd 1 1 (by decide +kernel) (by decide +kernel) (by decide +kernel) (by decide +kernel) (by decide +kernel) (by decide +kernel) (by omega) hl ?_
  refine z_cl (as := [.inl (E.2.2.2.1 (i + 1))]) (st := []) (n := 1) (j := 199) (r0 := 138) 9 (by decide +kernel) ⟨by decide +kernel, s_199⟩ w_1214 ⟨w_1215, w_1216⟩ hI0.1 rfl (by decide) (fun q hq => by cases hq; rfl) rfl (Nat.le_of_ble_eq_true rfl) ⟨rfl, rfl⟩ (z_p199 hI0 (hE _)) (fun r h' z => ?_)
  obtain ⟨⟨n1, z1⟩, hI1⟩ := z
  subst z1
  refine q_pop (by decide +kernel) rfl ?_
  refine q_goto (off := 181) (tgt := 1014) (by decide +kernel) (by decide) ?_
  exact k _ hI1
theorem z_c22 {E : q_E} {i : Nat} (hE : ∀ k, E.2.2.2.1 k < 4294967296) (hi : i + 5 ≤ E.2.2.2.2) (hl : E.2.2.2.2 ≤ 2560) {h : q_H} (hI : z_LI h) (k : ∀ h, z_LI h → q_W E m_L z_Q 1014 (z_l i) [] 1000 50000 h) : q_W E m_L z_Q 836 (z_l i) [] 1000 50000 h := by
  refine q_aload_nr (k0 := 1) (i := 1) (a := 0) (by decide +kernel) rfl rfl ?_
  refine z_rd 1 1 (by decide +kernel) (by decide +kernel) (by decide +kernel) (by decide +kernel) (by decide +kernel) (by decide +kernel) (by omega) hl ?_
  refine z_rd 2 2 (by decide +kernel) (by decide +kernel) (by decide +kernel) (by decide +kernel) (by decide +kernel) (by decide +kernel) (by omega) hl ?_
  refine z_rd 3 3 (by decide +kernel) (by decide +kernel) (by decide +kernel) (by decide +kernel) (by decide +kernel) (by decide +kernel) (by omega) hl ?_
  refine z_cl (as := [.inl (E.2.2.2.1 (i + 1)), .inl (E.2.2.2.1 (i + 2)), .inl (E.2.2.2.1 (i + 3))]) (st := []) (n := 3) (j := 160) (r0 := 0) 8 (by decide +kernel) ⟨by decide +kernel, s_160⟩ w_838 ⟨w_839, w_840⟩ hI.1 rfl (by decide) (fun q hq => by cases hq; rfl) rfl (Nat.le_of_ble_eq_true rfl) ⟨rfl, rfl⟩ (z_p160 hI (hE _) (hE _) (hE _)) (fun r h' z => ?_)
  obtain ⟨⟨n0, z1⟩, hI0⟩ := z
  subst z1
  refine q_pop (by decide +kernel) rfl ?_
  refine q_aload_nr (k0 := 2) (i := 2) (a := 138) (by decide +kernel) rfl rfl ?_
  refine z_rd 1 1 (by decide +kernel) (by decide +kernel) (by decide +kernel) (by decide +kernel) (by decide +kernel) (by decide +kernel) (by omega) hl ?_
  refine z_rd 2 2 (by decide +kernel) (by decide +kernel) (by decide +kernel) (by decide +kernel) (by decide +kernel) (by decide +kernel) (by omega) hl ?_
  refine z_rd 3 3 (by decide +kernel) (by decide +kernel) (by decide +kernel) (by decide +kernel) (by decide +kernel) (by decide +kernel) (by omega) hl ?_
  refine z_cl (as := [.inl (E.2.2.2.1 (i + 1)), .inl (E.2.2.2.1 (i + 2)), .inl (E.2.2.2.1 (i + 3))]) (st := []) (n := 3) (j := 200) (r0 := 138) 9 (by decide +kernel) ⟨by decide +kernel, s_200⟩ w_1237 ⟨w_1238, w_1239⟩ hI0.1 rfl (by decide) (fun q hq => by cases hq; rfl) rfl (Nat.le_of_ble_eq_true rfl) ⟨rfl, rfl⟩ (z_p200 hI0 (hE _) (hE _) (hE _)) (fun r h' z => ?_)
  obtain ⟨⟨n1, z1⟩, hI1⟩ := z
  subst z1
  refine q_pop (by decide +kernel) rfl ?_
  refine q_goto (off := 138) (tgt := 1014) (by decide +kernel) (by decide) ?_
  exact k _ hI1
theorem z_c23 {E : q_E} {i : Nat} (hE : ∀ k, E.2.2.2.1 k < 4294967296) (hi : i + 5 ≤ E.2.2.2.2) (hl : E.2.2.2.2 ≤ 2560) {h : q_H} (hI : z_LI h) (k : ∀ h, z_LI h → q_W E m_L z_Q 1014 (z_l i) [] 1000 50000 h) : q_W E m_L z_Q 879 (z_l i) [] 1000 50000 h := by
  refine q_aload_nr (k0 := 1) (i := 1) (a := 0) (by decide +kernel) rfl rfl ?_
  refine z_rd 1 1 (by decide +kernel) (by decide +kernel) (by decide +kernel) (by decide +kernel) (by decide +kernel) (by decide +kernel) (by omega) hl ?_
  refine z_rd 2 2 (by decide +kernel) (by decide +kernel) (by decide +kernel) (by decide +kernel) (by decide +kernel) (by decide +kernel) (by omega) hl ?_
  refine z_rd 3 3 (by decide +kernel) (by decide +kernel) (by decide +kernel) (by decide +kernel) (by decide +kernel) (by decide +kernel) (by omega) hl ?_
  refine z_cl (as := [.inl (E.2.2.2.1 (i + 1)), .inl (E.2.2.2.1 (i + 2)), .inl (E.2.2.2.1 (i + 3))]) (st := []) (n := 3) (j := 162) (r0 := 0) 8 (by decide +kernel) ⟨by decide +kernel, s_162⟩ w_847 ⟨w_848, w_849⟩ hI.1 rfl (by decide) (fun q hq => by cases hq; rfl) rfl (Nat.le_of_ble_eq_true rfl) ⟨rfl, rfl⟩ (z_p162 hI (hE _) (hE _) (hE _)) (fun r h' z => ?_)
  obtain ⟨⟨n0, z1⟩, hI0⟩ := z
  subst z1
  refine q_pop (by decide +kernel) rfl ?_
  refine q_aload_nr (k0 := 2) (i := 2) (a := 138) (by decide +kernel) rfl rfl ?_
  refine z_rd 1 1 (by decide +kernel) (by decide +kernel) (by decide +kernel) (by decide +kernel) (by decide +kernel) (by decide +kernel) (by omega) hl ?_
  refine z_rd 2 2 (by decide +kernel) (by decide +kernel) (by decide +kernel) (by decide +kernel) (by decide +kernel) (by decide +kernel) (by omega) hl ?_
  refine z_rd 3 3 (by decide +kernel) (by decide +kernel) (by decide +kernel) (by decide +kernel) (by decide +kernel) (by decide +kernel) (by omega) hl ?_
  refine z_cl (as := [.inl (E.2.2.2.1 (i + 1)), .inl (E.2.2.2.1 (i + 2)), .inl (E.2.2.2.1 (i + 3))]) (st := []) (n := 3) (j := 205) (r0 := 138) 9 (by decide +kernel) ⟨by decide +kernel, s_205⟩ w_1258 ⟨w_1259, w_1260⟩ hI0.1 rfl (by decide) (fun q hq => by cases hq; rfl) rfl (Nat.le_of_ble_eq_true rfl) ⟨rfl, rfl⟩ (z_p205 hI0 (hE _) (hE _) (hE _)) (fun r h' z => ?_)
  obtain ⟨⟨n1, z1⟩, hI1⟩ := z
  subst z1
  refine q_pop (by decide +kernel) rfl ?_
  refine q_goto (off := 95) (tgt := 1014) (by decide +kernel) (by decide) ?_
  exact k _ hI1
theorem z_c24 {E : q_E} {i : Nat} (hE : ∀ k, E.2.2.2.1 k < 4294967296) (hi : i + 5 ≤ E.2.2.2.2) (hl : E.2.2.2.2 ≤ 2560) {h : q_H} (hI : z_LI h) (k : ∀ h, z_LI h → q_W E m_L z_Q 1014 (z_l i) [] 1000 50000 h) : q_W E m_L z_Q 922 (z_l i) [] 1000 50000 h := by
  refine q_aload_nr (k0 := 1) (i := 1) (a := 0) (by decide +kernel) rfl rfl ?_
  refine z_rd 1 1 (by decide +kernel) (by decide +kernel) (by decide +kernel) (by decide +kernel) (by decide +kernel) (by decide +kernel) (by omega) hl ?_
  refine z_rd 2 2 (by decide +kernel) (by decide +kernel) (by decide +kernel) (by decide +kernel) (by decide +kernel) (by decide +kernel) (by omega) hl ?_
  refine z_rd 3 3 (by decide +kernel) (by decide +kernel) (by decide +kernel) (by decide +kernel) (by decide +kernel) (by decide +kernel) (by omega) hl ?_
  refine z_cl (as := [.inl (E.2.2.2.1 (i + 1)), .inl (E.2.2.2.1 (i + 2)), .inl (E.2.2.2.1 (i + 3))]) (st := []) (n := 3) (j := 165) (r0 := 0) 8 (by decide +kernel) ⟨by decide +kernel, s_165⟩ w_859 ⟨w_860, w_861⟩ hI.1 rfl (by decide) (fun q hq => by cases hq; rfl) rfl (Nat.le_of_ble_eq_true rfl) ⟨rfl, rfl⟩ (z_p165 hI (hE _) (hE _) (hE _)) (fun r h' z => ?_)
  obtain ⟨⟨n0, z1⟩, hI0⟩ := z
  subst z1
  refine q_pop (by decide +kernel) rfl ?_
  refine q_aload_nr (k0 := 2) (i := 2) (a := 138) (by decide +kernel) rfl rfl ?_
  refine z_rd 1 1 (by decide +kernel) (by decide +kernel) (by decide +kernel) (by decide +kernel) (by decide +kernel) (by decide +kernel) (by omega) hl ?_
  refine z_rd 2 2 (by decide +kernel) (by decide +kernel) (by decide +kernel) (by decide +kernel) (by decide +kernel) (by decide +kernel) (by omega) hl ?_
  refine z_rd 3 3 (by decide +kernel) (by decide +kernel) (by decide +kernel) (by decide +kernel) (by decide +kernel) (by decide +kernel) (by omega) hl ?_
  refine z_cl (as := [.inl (E.2.2.2.1 (i + 1)), .inl (E.2.2.2.1 (i + 2)), .inl (E.2.2.2.1 (i + 3))]) (st := []) (n := 3) (j := 208) (r0 := 138) 9 (by decide +kernel) ⟨by decide +kernel, s_208⟩ w_1270 ⟨w_1271, w_1272⟩ hI0.1 rfl (by decide) (fun q hq => by cases hq; rfl) rfl (Nat.le_of_ble_eq_true rfl) ⟨rfl, rfl⟩ (z_p208 hI0 (hE _) (hE _) (hE _)) (fun r h' z => ?_)
  obtain ⟨⟨n1, z1⟩, hI1⟩ := z
  subst z1
  refine q_pop (by decide +kernel) rfl ?_
  refine q_goto (off := 52) (tgt := 1014) (by decide +kernel) (by decide) ?_
  exact k _ hI1
theorem z_c25 {E : q_E} {i : Nat} (hE : ∀ k, E.2.2.2.1 k < 4294967296) (hi : i + 5 ≤ E.2.2.2.2) (hl : E.2.2.2.2 ≤ 2560) {h : q_H} (hI : z_LI h) (k : ∀ h, z_LI h → q_W E m_L z_Q 1014 (z_l i) [] 1000 50000 h) : q_W E m_L z_Q 965 (z_l i) [] 1000 50000 h := by
  refine q_aload_nr (k0 := 1) (i := 1) (a := 0) (by decide +kernel) rfl rfl ?_
  refine z_cl (as := []) (st := []) (n := 0) (j := 166) (r0 := 0) 8 (by decide +kernel) ⟨by decide +kernel, s_166⟩ w_863 ⟨w_864, w_865⟩ hI.1 rfl (by decide) (fun q hq => by cases hq; rfl) rfl (Nat.le_of_ble_eq_true rfl) ⟨rfl, rfl⟩ (z_p166 hI ) (fun r h' z => ?_)
  obtain ⟨n, z1, hs2, P2⟩ := z
  subst z1
  refine q_pop (by decide +kernel) rfl ?_
  refine q_aload_nr (k0 := 2) (i := 2) (a := 138) (by decide +kernel) rfl rfl ?_
  refine z_cl (as := []) (st := []) (n := 0) (j := 209) (r0 := 138) 9 (by decide +kernel) ⟨by decide +kernel, s_209⟩ w_1274 ⟨w_1275, w_1276⟩ hs2 rfl (by decide) (fun q hq => by cases hq; rfl) rfl (Nat.le_of_ble_eq_true rfl) ⟨rfl, rfl⟩ (P2) (fun r h' z => ?_)
  obtain ⟨z1, hI2⟩ := z
  subst z1
  refine q_pop (by decide +kernel) rfl ?_
  refine q_goto (off := 39) (tgt := 1014) (by decide +kernel) (by decide) ?_
  exact k _ hI2
theorem z_c26 {E : q_E} {i : Nat} (hE : ∀ k, E.2.2.2.1 k < 4294967296) (hi : i + 5 ≤ E.2.2.2.2) (hl : E.2.2.2.2 ≤ 2560) {h : q_H} (hI : z_LI h) (k : ∀ h, z_LI h → q_W E m_L z_Q 1014 (z_l i) [] 1000 50000 h) : q_W E m_L z_Q 978 (z_l i) [] 1000 50000 h := by
  refine q_aload_nr (k0 := 1) (i := 1) (a := 0) (by decide +kernel) rfl rfl ?_
  refine z_cl (as := []) (st := []) (n := 0) (j := 167) (r0 := 0) 8 (by decide +kernel) ⟨by decide +kernel, s_167⟩ w_867 ⟨w_868, w_869⟩ hI.1 rfl (by decide) (fun q hq => by cases hq; rfl) rfl (Nat.le_of_ble_eq_true rfl) ⟨rfl, rfl⟩ (z_p167 hI ) (fun r h' z => ?_)
  obtain ⟨n, z1, hs2, P2⟩ := z
  subst z1
  refine q_pop (by decide +kernel) rfl ?_
  refine q_aload_nr (k0 := 2) (i := 2) (a := 138) (by decide +kernel) rfl rfl ?_
  refine z_cl (as := []) (st := []) (n := 0) (j := 210) (r0 := 138) 9 (by decide +kernel) ⟨by decide +kernel, s_210⟩ w_1278 ⟨w_1279, w_1280⟩ hs2 rfl (by decide) (fun q hq => by cases hq; rfl) rfl (Nat.le_of_ble_eq_true rfl) ⟨rfl, rfl⟩ (P2) (fun r h' z => ?_)
  obtain ⟨z1, hI2⟩ := z
  subst z1
  refine q_pop (by decide +kernel) rfl ?_
  refine q_goto (off := 26) (tgt := 1014) (by decide +kernel) (by decide) ?_
  exact k _ hI2
theorem z_c27 {E : q_E} {i : Nat} (hE : ∀ k, E.2.2.2.1 k < 4294967296) (hi : i + 5 ≤ E.2.2.2.2) (hl : E.2.2.2.2 ≤ 2560) {h : q_H} (hI : z_LI h) (k : ∀ h, z_LI h → q_W E m_L z_Q 1014 (z_l i) [] 1000 50000 h) : q_W E m_L z_Q 991 (z_l i) [] 1000 50000 h := by
  refine q_aload_nr (k0 := 1) (i := 1) (a := 0) (by decide +kernel) rfl rfl ?_
  refine z_rd 1 1 (by decide +kernel) (by decide +kernel) (by decide +kernel) (by decide +kernel) (by decide +kernel) (by decide +kernel) (by omega) hl ?_
  refine z_cl (as := [.inl (E.2.2.2.1 (i + 1))]) (st := []) (n := 1) (j := 168) (r0 := 0) 8 (by decide +kernel) ⟨by decide +kernel, s_168⟩ w_871 ⟨w_872, w_873⟩ hI.1 rfl (by decide) (fun q hq => by cases hq; rfl) rfl (Nat.le_of_ble_eq_true rfl) ⟨rfl, rfl⟩ (z_p168 hI (hE _)) (fun r h' z => ?_)
  obtain ⟨n, z1, hs2, P2⟩ := z
  subst z1
  refine q_aload_nr (k0 := 2) (i := 2) (a := 138) (by decide +kernel) rfl rfl ?_
  refine z_rd 1 1 (by decide +kernel) (by decide +kernel) (by decide +kernel) (by decide +kernel) (by decide +kernel) (by decide +kernel) (by omega) hl ?_
  refine z_cl (as := [.inl (E.2.2.2.1 (i + 1))]) (st := [.inl n]) (n := 1) (j := 211) (r0 := 138) 9 (by decide +kernel) ⟨by decide +kernel, s_211⟩ w_1282 ⟨w_1283, w_1284⟩ hs2 rfl (by decide) (fun q hq => by cases hq; rfl) rfl (Nat.le_of_ble_eq_true rfl) ⟨rfl, rfl⟩ (P2) (fun r h' z => ?_)
  obtain ⟨z1, hI2⟩ := z
  subst z1
  refine q_icmp_eq (a := n) (b := n) (off := 5) (tgt := 1014) (by decide +kernel) (by decide) rfl rfl (fun _ => ?_) (fun z => absurd rfl z)
  exact k _ hI2
