set_option maxHeartbeats 8000000 in
set_option maxRecDepth 100000 in
theorem c_B_nameWord (l : Launch) (dC : Nat → ClassId) (dI : Nat → Nat → Nat) (cy : Nat → ClassId) (ad : Nat → Nat) (sz : Nat) (a1 : Int32) (iB : Nat → Int32) (lB : Nat → Nat → Int64) (aB : Nat → Nat → Int32) (iC : Nat → Int32) (aC : Nat → Nat → Int32) (q : Int64) (h : f_B_nameWord a1 (iB 3) (lB 2) = some q) : Met l yX0_nameWord wsX0_nameWord ({ frames := 0, cells := 0, slots := 0, locals := 0 } : Room) (cP (dC, dI) cy [.ref (ad 0), .int a1] (zzB ad cy iB lB aB iC aC) sz) (cQl (dC, dI) cy q (zzB ad cy iB lB aB iC aC) (va_A (zzB ad cy iB lB aB iC aC) sz)) 0 0 (va_A (zzB ad cy iB lB aB iC aC) sz) := by
  refine Met.ofW (cc := cX0_nameWord) (maxL := 2) (ret := (some .long)) (by decide) rfl ?_
  intro p e s m args below meth c s₁ B hml hv
  obtain ⟨hav, hsz, hP, hK, hD0, hN⟩ := hv
  have hx := B.exec
  have hb := B.bytes
  have hr := B.returns
  have hts := atoms_spec (ws := wsX0_nameWord) B.pre
  have hown : s.vm.findClass RX0 = some m.cls := findClass_of_methodNamed B.named
  have hlocks := B.notSynchronized
  subst hsz
  have hD := hD0.self (sz := s.heap.size)
  generalize hAe : va_A (zzB ad cy iB lB aB iC aC) s.heap.size = A at hD ⊢
  have hA : ∀ q : Nat, s.heap.size ≤ q → A q := fun q h => by rw [← hAe]; exact Or.inr h
  have hS : va_S A s.heap s.heap [] := va_S.rf
  generalize hWQ : (zzB ad cy iB lB aB iC aC) = WQ
  generalize hQQ : MQ below (cQl (dC, dI) cy q WQ A) args s 0 0 A = QQ
  have hl := lv_entry ([.ref (ad 0), .int a1] : List Value) (n := 2) (Nat.le_of_ble_eq_true rfl)
  have hfr := lg_entry_eq m ([.ref (ad 0), .int a1] : List Value) 2
  rw [← hav] at hfr
  rw [hfr]
  clear hfr hav
  generalize (lg_sl ([.ref (ad 0), .int a1] : List Value) ++ List.replicate (2 - (lg_sl ([.ref (ad 0), .int a1] : List Value)).length) Slot.unset).toArray = ls at hl ⊢
  have hl : lv_has ls 2 [(0, .ref (ad 0)), (1, .int a1)] := hl
  have kf45 := hts _ (List.mem_cons_of_mem _ m_fl_X0_45)
  have ki0 := (fun w h => List.mem_cons_of_mem _ (i_X0 w h) : ∀ w ∈ u_ws RX0 TX0 15, w ∈ wsX0_nameWord)
  have kf18 := hts _ (List.mem_cons_of_mem _ m_fl_X0_18)
  refine (?_ : ∀ (H : Heap) (locs : List Loc), va_P (dC, dI) vwCl (zzB ad cy iB lB aB iC aC) H → va_D A (zzB ad cy iB lB aB iC aC) → va_S A s.heap H locs → W p l e ({ frames := 0, cells := 0, slots := 0, locals := 0 } : Room) s m args below meth c H locs 0 0 QQ (F0 m 0 ls [])) s.heap [] hP hD hS
  clear hP hD hS
  intro H locs hP hD hS
  unfold f_B_nameWord at h
  refine lv_iload_n hx hb dX0_nameWord_0 rfl (lv_at hl 1 rfl) ?_
  refine lv_if_lt (tgt := 21) hx hb dX0_nameWord_1 (by decide) (fun cz => ?_) (fun cz => ?_)
  · have h := g_t h cz
    refine lv_lconst (v := 0) hx hb dX0_nameWord_21 (by decide) ?_
    have h' := Option.some.inj h
    rw [← hQQ]
    exact W.lret (v := (0 : Int64)) hx hb hr (fun t ht hW => ⟨⟨(0 : Int64), (), rfl, by rw [← h'], by rw [← hWQ, ht]; exact hP, va_K.moved hW.alike hK⟩, hS.F ht⟩) hS.2.2 dX0_nameWord_22
  · have h := g_f h cz
    refine lv_iload_n hx hb dX0_nameWord_4 rfl (lv_at hl 1 rfl) ?_
    refine lv_aload_n hx hb dX0_nameWord_5 rfl (lv_at hl 0 rfl) ?_
    refine va_get (D := (dC, dI)) (ci := 0) (v := .int (iB 3)) (C := RX0) (T := TX0) (N := 15) hx hb hts ki0 hown hK hP 0 rfl rfl 3 (by decide) kf45 (fun _ h9 => h9) rfl dX0_nameWord_6 ?_
    refine lv_icmp_ge (tgt := 21) hx hb dX0_nameWord_9 (by decide) (fun cz => ?_) (fun cz => ?_)
    · have h := g_t h cz
      refine lv_lconst (v := 0) hx hb dX0_nameWord_21 (by decide) ?_
      have h' := Option.some.inj h
      rw [← hQQ]
      exact W.lret (v := (0 : Int64)) hx hb hr (fun t ht hW => ⟨⟨(0 : Int64), (), rfl, by rw [← h'], by rw [← hWQ, ht]; exact hP, va_K.moved hW.alike hK⟩, hS.F ht⟩) hS.2.2 dX0_nameWord_22
    · have h := g_f h cz
      refine lv_aload_n hx hb dX0_nameWord_12 rfl (lv_at hl 0 rfl) ?_
      refine va_get (D := (dC, dI)) (ci := 0) (v := .ref (ad 1)) (C := RX0) (T := TX0) (N := 15) hx hb hts ki0 hown hK hP 0 rfl rfl 2 (by decide) kf18 (fun _ h9 => h9) rfl dX0_nameWord_13 ?_
      refine lv_iload_n hx hb dX0_nameWord_16 rfl (lv_at hl 1 rfl) ?_
      obtain ⟨g_44, h⟩ := g_n h
      refine va_lald (f := (lB 2)) hx hb hK hP 1 2 rfl rfl g_44 dX0_nameWord_17 ?_
      refine lv_goto (tgt := 22) hx hb dX0_nameWord_18 (by decide) ?_
      have h' := Option.some.inj h
      rw [← hQQ]
      exact W.lret (v := ((lB 2) a1.toNatClampNeg)) hx hb hr (fun t ht hW => ⟨⟨((lB 2) a1.toNatClampNeg), (), rfl, by rw [← h'], by rw [← hWQ, ht]; exact hP, va_K.moved hW.alike hK⟩, hS.F ht⟩) hS.2.2 dX0_nameWord_22
set_option maxHeartbeats 8000000 in
set_option maxRecDepth 100000 in
theorem c_P_printNode (l : Launch) (dC : Nat → ClassId) (dI : Nat → Nat → Nat) (cy : Nat → ClassId) (ad : Nat → Nat) (sz : Nat) (N : Nat) (a1 : Int32) (iP : Nat → Int32) (aP : Nat → Nat → Int32) (iB : Nat → Int32) (lB : Nat → Nat → Int64) (aB : Nat → Nat → Int32) (iC : Nat → Int32) (aC : Nat → Nat → Int32) (q : Int32 × Int32 × (Nat → Int32) × (Nat → Int32)) (h : f_P_printNode N a1 (iB 3) (iB 5) (lB 2) (lB 4) (iC 4) (aC 0) (aC 1) (aC 2) (iP 1) (iP 4) (aP 0) (aP 3) = some q) : Met l yX3_printNode wsX3_printNode ({ frames := 2, cells := 0, slots := 0, locals := 47 } : Room) (cP (dC, dI) cy [.ref (ad 0), .int a1] (zzP ad cy (ad 3) iP aP iB lB aB iC aC) sz) (cQv (dC, dI) cy (zzP ad cy (ad 3) (us iP [(1, q.1), (4, q.2.1)]) (us aP [(0, q.2.2.1), (3, q.2.2.2)]) iB lB aB iC aC) (va_A (zzP ad cy (ad 3) iP aP iB lB aB iC aC) sz)) 0 0 (va_A (zzP ad cy (ad 3) iP aP iB lB aB iC aC) sz) := by
  refine Met.ofW (cc := cX3_printNode) (maxL := 6) (ret := none) (by decide) rfl ?_
  intro p e s m args below meth c s₁ B hml hv
  obtain ⟨hav, hsz, hP, hK, hD0, hN⟩ := hv
  have hx := B.exec
  have hb := B.bytes
  have hr := B.returns
  have hts := atoms_spec (ws := wsX3_printNode) B.pre
  have hown : s.vm.findClass RX3 = some m.cls := findClass_of_methodNamed B.named
  have hlocks := B.notSynchronized
  subst hsz
  have hD := hD0.self (sz := s.heap.size)
  generalize hAe : va_A (zzP ad cy (ad 3) iP aP iB lB aB iC aC) s.heap.size = A at hD ⊢
  have hA : ∀ q : Nat, s.heap.size ≤ q → A q := fun q h => by rw [← hAe]; exact Or.inr h
  have hS : va_S A s.heap s.heap [] := va_S.rf
  generalize hWQ : (zzP ad cy (ad 3) (us iP [(1, q.1), (4, q.2.1)]) (us aP [(0, q.2.2.1), (3, q.2.2.2)]) iB lB aB iC aC) = WQ
  generalize hQQ : MQ below (cQv (dC, dI) cy WQ A) args s 0 0 A = QQ
  have hl := lv_entry ([.ref (ad 0), .int a1] : List Value) (n := 6) (Nat.le_of_ble_eq_true rfl)
  have hfr := lg_entry_eq m ([.ref (ad 0), .int a1] : List Value) 6
  rw [← hav] at hfr
  rw [hfr]
  clear hfr hav
  generalize (lg_sl ([.ref (ad 0), .int a1] : List Value) ++ List.replicate (6 - (lg_sl ([.ref (ad 0), .int a1] : List Value)).length) Slot.unset).toArray = ls at hl ⊢
  have hl : lv_has ls 6 [(0, .ref (ad 0)), (1, .int a1)] := hl
  have kf19 := hts _ (List.mem_cons_of_mem _ m_fl_X3_19)
  have ki3 := (fun w h => List.mem_cons_of_mem _ (i_X3 w h) : ∀ w ∈ u_ws RX3 TX3 5, w ∈ wsX3_printNode)
  have kf99 := hts _ (List.mem_cons_of_mem _ m_fl_X3_99)
  have ki0 := (fun w h => List.mem_cons_of_mem _ (i_X0 w h) : ∀ w ∈ u_ws RX0 TX0 15, w ∈ wsX3_printNode)
  have kc111 := hts _ (List.mem_cons_of_mem _ m_kl_X3_111)
  have kc113 := hts _ (List.mem_cons_of_mem _ m_kl_X3_113)
  have kc119 := hts _ (List.mem_cons_of_mem _ m_kl_X3_119)
  have kc123 := hts _ (List.mem_cons_of_mem _ m_kl_X3_123)
  have kc121 := hts _ (List.mem_cons_of_mem _ m_kl_X3_121)
  refine (?_ : ∀ (H : Heap) (locs : List Loc), va_P (dC, dI) vwCl (zzP ad cy (ad 3) iP aP iB lB aB iC aC) H → va_D A (zzP ad cy (ad 3) iP aP iB lB aB iC aC) → va_S A s.heap H locs → W p l e ({ frames := 2, cells := 0, slots := 0, locals := 47 } : Room) s m args below meth c H locs 0 0 QQ (F0 m 0 ls [])) s.heap [] hP hD hS
  clear hP hD hS
  have B168 : ∀ (s1 : Int32) (s2 : Int32) (x_iP4 : Int32) (x_aP3 : Nat → Int32) (H : Heap) (locs : List Loc) (ls : Array Slot), f_P_printNode_168 N (iB 3) (iB 5) (lB 2) (lB 4) (iC 4) (aC 0) (aC 1) (aC 2) (iP 1) (iP 4) (aP 0) (aP 3) s1 s2 x_iP4 x_aP3 = some q → va_P (dC, dI) vwCl (zzP ad cy (ad 3) (us iP [(4, x_iP4)]) (us aP [(3, x_aP3)]) iB lB aB iC aC) H → va_D A (zzP ad cy (ad 3) (us iP [(4, x_iP4)]) (us aP [(3, x_aP3)]) iB lB aB iC aC) → va_S A s.heap H locs → lv_has ls 6 [] → W p l e ({ frames := 2, cells := 0, slots := 0, locals := 47 } : Room) s m args below meth c H locs 0 0 QQ (F0 m 168 ls [.int s2, .int s1, .ref (ad 0)]) := by
    intro s1 s2 x_iP4 x_aP3 H locs ls h hP hD hS hl
    unfold f_P_printNode_168 at h
    obtain ⟨q168, e168, h⟩ := g_b h
    refine callVvs (cc := cX3_printNode) (w1 := zzP ad cy (ad 3) (us iP [(4, q168.1)]) (us aP [(3, q168.2)]) iB lB aB iC aC) (As := [.int s1, .int s2]) (rest := []) ⟨hx, hb, hml, hown, hts⟩ (c_P_awaitPart l dC dI cy ad H.size s1 s2 ((us iP [(4, x_iP4)])) ((us aP [(3, x_aP3)])) iB lB aB iC aC q168 e168) (cwV 2 hts (goodV m_ml_X3_115 m_im_X3_awaitPart m_se_X3_awaitPart m_in_X3 m_cd_X3_awaitPart) rfl rfl rfl (by decide +kernel) ⟨Nat.le_of_ble_eq_true rfl, Nat.le_of_ble_eq_true rfl⟩) hN hK hP hD hS hA rfl 0 rfl rfl rfl hl.1 rfl (Nat.le_of_ble_eq_true rfl) dX3_printNode_168 ⟨Nat.zero_le _, Nat.zero_le _⟩ (fun H locs hP hD hS => ?_)
    refine lv_goto (tgt := 259) hx hb dX3_printNode_171 (by decide) ?_
    have h' := Option.some.inj h
    rw [← hQQ]
    exact W.vret hx hb hr (fun t ht hW => ⟨⟨(), rfl, trivial, by rw [← hWQ, ← h', ht]; exact hP, va_K.moved hW.alike hK⟩, hS.F ht⟩) hS.2.2 dX3_printNode_259
  have B147 : ∀ (v3 : Int32) (v4 : Int32) (s1 : Int32) (x_iP4 : Int32) (x_aP3 : Nat → Int32) (H : Heap) (locs : List Loc) (ls : Array Slot), f_P_printNode_147 N (iB 3) (iB 5) (lB 2) (lB 4) (iC 4) (aC 0) (aC 1) (aC 2) (iP 1) (iP 4) (aP 0) (aP 3) v3 v4 s1 x_iP4 x_aP3 = some q → va_P (dC, dI) vwCl (zzP ad cy (ad 3) (us iP [(4, x_iP4)]) (us aP [(3, x_aP3)]) iB lB aB iC aC) H → va_D A (zzP ad cy (ad 3) (us iP [(4, x_iP4)]) (us aP [(3, x_aP3)]) iB lB aB iC aC) → va_S A s.heap H locs → lv_has ls 6 [(0, .ref (ad 0)), (2, .ref (ad 10)), (3, .int v3), (4, .int v4)] → W p l e ({ frames := 2, cells := 0, slots := 0, locals := 47 } : Room) s m args below meth c H locs 0 0 QQ (F0 m 147 ls [.int s1, .ref (ad 0)]) := by
    intro v3 v4 s1 x_iP4 x_aP3 H locs ls h hP hD hS hl
    unfold f_P_printNode_147 at h
    obtain ⟨q147, e147, h⟩ := g_b h
    refine callVvs (cc := cX3_printNode) (w1 := zzP ad cy (ad 3) (us iP [(4, q147.1)]) (us aP [(3, q147.2)]) iB lB aB iC aC) (As := [.int s1]) (rest := []) ⟨hx, hb, hml, hown, hts⟩ (c_P_await l dC dI cy ad H.size s1 ((us iP [(4, x_iP4)])) ((us aP [(3, x_aP3)])) iB lB aB iC aC q147 e147) (cwV 1 hts (goodV m_ml_X3_82 m_im_X3_await m_se_X3_await m_in_X3 m_cd_X3_await) rfl rfl rfl (by decide +kernel) ⟨Nat.le_of_ble_eq_true rfl, Nat.le_of_ble_eq_true rfl⟩) hN hK hP hD hS hA rfl 0 rfl rfl rfl hl.1 rfl (Nat.le_of_ble_eq_true rfl) dX3_printNode_147 ⟨Nat.zero_le _, Nat.zero_le _⟩ (fun H locs hP hD hS => ?_)
    refine lv_aload_n hx hb dX3_printNode_150 rfl (lv_at hl 0 rfl) ?_
    refine lv_iload hx hb dX3_printNode_151 (lv_at hl 3 rfl) ?_
    refine lv_aload_n hx hb dX3_printNode_153 rfl (lv_at hl 1 rfl) ?_
    refine lv_iload hx hb dX3_printNode_154 (lv_at hl 3 rfl) ?_
    obtain ⟨q156, e156, h⟩ := g_b h
    refine callVi (cc := cX3_printNode) (ws' := zzP ad cy (ad 3) (us iP [(4, q147.1)]) (us aP [(3, q147.2)]) iB lB aB iC aC) (As := [.int v4]) (rest := [.int v4, .ref (ad 0)]) ⟨hx, hb, hml, hown, hts⟩ (c_C_sortOf l dC dI cy (fun i => ad (i + 10)) H.size v4 iC aC q156 e156) (cwV 1 hts (goodV m_ml_X3_103 m_im_X1_sortOf m_se_X1_sortOf m_in_X1 m_cd_X1_sortOf) rfl rfl rfl (by decide +kernel) ⟨Nat.le_of_ble_eq_true rfl, Nat.le_of_ble_eq_true rfl⟩) hN hK hP hD hS hA [10, 11, 12, 13, 14, 15, 16, 17, 18] [none, none, none, none, none, none, none, none, none, none, some 0, some 1, some 2, some 3, some 4, some 5, some 6, some 7, some 8] rfl rfl rfl rfl rfl rfl 10 rfl rfl rfl hl.1 rfl (Nat.le_of_ble_eq_true rfl) dX3_printNode_156 ⟨Nat.zero_le _, Nat.zero_le _⟩ (fun H locs hP hD hS => ?_)
    refine lv_iload_n hx hb dX3_printNode_159 rfl (lv_at hl 2 rfl) ?_
    refine lv_icmp_le (tgt := 167) hx hb dX3_printNode_160 (by decide) (fun cz => ?_) (fun cz => ?_)
    · have h := g_t h cz
      refine lv_iconst (v := 0) hx hb dX3_printNode_167 (by decide) ?_
      exact B168 v4 ((0 : Int32)) q147.1 q147.2 H locs ls h hP hD hS (lv_sub hl [] rfl)
    · have h := g_f h cz
      refine lv_iconst (v := 1) hx hb dX3_printNode_163 (by decide) ?_
      refine lv_goto (tgt := 168) hx hb dX3_printNode_164 (by decide) ?_
      exact B168 v4 ((1 : Int32)) q147.1 q147.2 H locs ls h hP hD hS (lv_sub hl [] rfl)
  have B130 : ∀ (v3 : Int32) (v4 : Int32) (s1 : Int32) (s2 : Int32) (H : Heap) (locs : List Loc) (ls : Array Slot), f_P_printNode_130 N (iB 3) (iB 5) (lB 2) (lB 4) (iC 4) (aC 0) (aC 1) (aC 2) (iP 1) (iP 4) (aP 0) (aP 3) v3 v4 s1 s2 = some q → va_P (dC, dI) vwCl (zzP ad cy (ad 3) iP aP iB lB aB iC aC) H → va_D A (zzP ad cy (ad 3) iP aP iB lB aB iC aC) → va_S A s.heap H locs → lv_has ls 6 [(0, .ref (ad 0)), (2, .ref (ad 10)), (3, .int v3), (4, .int v4)] → W p l e ({ frames := 2, cells := 0, slots := 0, locals := 47 } : Room) s m args below meth c H locs 0 0 QQ (F0 m 130 ls [.int s2, .int s1, .ref (ad 0)]) := by
    intro v3 v4 s1 s2 H locs ls h hP hD hS hl
    unfold f_P_printNode_130 at h
    obtain ⟨q130, e130, h⟩ := g_b h
    refine callVvs (cc := cX3_printNode) (w1 := zzP ad cy (ad 3) (us iP [(4, q130.1)]) (us aP [(3, q130.2)]) iB lB aB iC aC) (As := [.int s1, .int s2]) (rest := []) ⟨hx, hb, hml, hown, hts⟩ (c_P_awaitPart l dC dI cy ad H.size s1 s2 iP aP iB lB aB iC aC q130 e130) (cwV 2 hts (goodV m_ml_X3_115 m_im_X3_awaitPart m_se_X3_awaitPart m_in_X3 m_cd_X3_awaitPart) rfl rfl rfl (by decide +kernel) ⟨Nat.le_of_ble_eq_true rfl, Nat.le_of_ble_eq_true rfl⟩) hN hK hP hD hS hA rfl 0 rfl rfl rfl hl.1 rfl (Nat.le_of_ble_eq_true rfl) dX3_printNode_130 ⟨Nat.zero_le _, Nat.zero_le _⟩ (fun H locs hP hD hS => ?_)
    refine lv_aload_n hx hb dX3_printNode_133 rfl (lv_at hl 0 rfl) ?_
    refine lv_iload_n hx hb dX3_printNode_134 rfl (lv_at hl 2 rfl) ?_
    refine lv_bipush (v := 6) hx hb dX3_printNode_135 (by decide) ?_
    refine lv_icmp_ne (tgt := 145) hx hb dX3_printNode_137 (by decide) (fun cz => ?_) (fun cz => ?_)
    · have h := g_f h cz
      refine lv_bipush (v := (-4)) hx hb dX3_printNode_145 (by decide) ?_
      exact B147 v3 v4 ((-4 : Int32)) q130.1 q130.2 H locs ls h hP hD hS (lv_sub hl [0, 1, 2, 3] rfl)
    · have h := g_t h cz
      refine lv_bipush (v := (-3)) hx hb dX3_printNode_140 (by decide) ?_
      refine lv_goto (tgt := 147) hx hb dX3_printNode_142 (by decide) ?_
      exact B147 v3 v4 ((-3 : Int32)) q130.1 q130.2 H locs ls h hP hD hS (lv_sub hl [0, 1, 2, 3] rfl)
  have B256 : ∀ (s1 : Int32) (s2 : Int32) (x_iP1 : Int32) (x_aP0 : Nat → Int32) (H : Heap) (locs : List Loc) (ls : Array Slot), f_P_printNode_256 N (iB 3) (iB 5) (lB 2) (lB 4) (iC 4) (aC 0) (aC 1) (aC 2) (iP 1) (iP 4) (aP 0) (aP 3) s1 s2 x_iP1 x_aP0 = some q → va_P (dC, dI) vwCl (zzP ad cy (ad 3) (us iP [(1, x_iP1)]) (us aP [(0, x_aP0)]) iB lB aB iC aC) H → va_D A (zzP ad cy (ad 3) (us iP [(1, x_iP1)]) (us aP [(0, x_aP0)]) iB lB aB iC aC) → va_S A s.heap H locs → lv_has ls 6 [] → W p l e ({ frames := 2, cells := 0, slots := 0, locals := 47 } : Room) s m args below meth c H locs 0 0 QQ (F0 m 256 ls [.int s2, .int s1, .ref (ad 0)]) := by
    intro s1 s2 x_iP1 x_aP0 H locs ls h hP hD hS hl
    unfold f_P_printNode_256 at h
    obtain ⟨q256, e256, h⟩ := g_b h
    refine callVvs (cc := cX3_printNode) (w1 := zzP ad cy (ad 3) (us iP [(1, x_iP1), (4, q256.1)]) (us aP [(0, x_aP0), (3, q256.2)]) iB lB aB iC aC) (As := [.int s1, .int s2]) (rest := []) ⟨hx, hb, hml, hown, hts⟩ (c_P_awaitPart l dC dI cy ad H.size s1 s2 ((us iP [(1, x_iP1)])) ((us aP [(0, x_aP0)])) iB lB aB iC aC q256 e256) (cwV 2 hts (goodV m_ml_X3_115 m_im_X3_awaitPart m_se_X3_awaitPart m_in_X3 m_cd_X3_awaitPart) rfl rfl rfl (by decide +kernel) ⟨Nat.le_of_ble_eq_true rfl, Nat.le_of_ble_eq_true rfl⟩) hN hK hP hD hS hA rfl 0 rfl rfl rfl hl.1 rfl (Nat.le_of_ble_eq_true rfl) dX3_printNode_256 ⟨Nat.zero_le _, Nat.zero_le _⟩ (fun H locs hP hD hS => ?_)
    have h' := Option.some.inj h
    rw [← hQQ]
    exact W.vret hx hb hr (fun t ht hW => ⟨⟨(), rfl, trivial, by rw [← hWQ, ← h', ht]; exact hP, va_K.moved hW.alike hK⟩, hS.F ht⟩) hS.2.2 dX3_printNode_259
  have B221 : ∀ (v4 : Int32) (v5 : Int32) (s1 : Int64) (H : Heap) (locs : List Loc) (ls : Array Slot), f_P_printNode_221 N (iB 3) (iB 5) (lB 2) (lB 4) (iC 4) (aC 0) (aC 1) (aC 2) (iP 1) (iP 4) (aP 0) (aP 3) v4 v5 s1 = some q → va_P (dC, dI) vwCl (zzP ad cy (ad 3) iP aP iB lB aB iC aC) H → va_D A (zzP ad cy (ad 3) iP aP iB lB aB iC aC) → va_S A s.heap H locs → lv_has ls 6 [(0, .ref (ad 0)), (2, .ref (ad 10)), (4, .int v4), (5, .int v5)] → W p l e ({ frames := 2, cells := 0, slots := 0, locals := 47 } : Room) s m args below meth c H locs 0 0 QQ (F0 m 221 ls [.long s1, .ref (ad 0)]) := by
    intro v4 v5 s1 H locs ls h hP hD hS hl
    unfold f_P_printNode_221 at h
    obtain ⟨q221, e221, h⟩ := g_b h
    refine callVvs (cc := cX3_printNode) (w1 := zzP ad cy (ad 3) (us iP [(1, q221.1)]) (us aP [(0, q221.2)]) iB lB aB iC aC) (As := [.long s1]) (rest := []) ⟨hx, hb, hml, hown, hts⟩ (c_P_putBehind l dC dI cy ad H.size N s1 iP aP iB lB aB iC aC q221 e221) (cwV 1 hts (goodV m_ml_X3_66 m_im_X3_putBehind m_se_X3_putBehind m_in_X3 m_cd_X3_putBehind) rfl rfl rfl (by decide +kernel) ⟨Nat.le_of_ble_eq_true rfl, Nat.le_of_ble_eq_true rfl⟩) hN hK hP hD hS hA rfl 0 rfl rfl rfl hl.1 rfl (Nat.le_of_ble_eq_true rfl) dX3_printNode_221 ⟨Nat.zero_le _, Nat.zero_le _⟩ (fun H locs hP hD hS => ?_)
    refine lv_aload_n hx hb dX3_printNode_224 rfl (lv_at hl 0 rfl) ?_
    refine lv_aload_n hx hb dX3_printNode_225 rfl (lv_at hl 0 rfl) ?_
    refine va_get (D := (dC, dI)) (ci := 3) (v := .ref (ad 3)) (C := RX3) (T := TX3) (N := 5) hx hb hts ki3 hown hK hP 0 rfl rfl 2 (by decide) kf19 (fun _ h9 => h9) rfl dX3_printNode_226 ?_
    refine lv_iload hx hb dX3_printNode_229 (lv_at hl 3 rfl) ?_
    obtain ⟨q231, e231, h⟩ := g_b h
    refine callVl (cc := cX3_printNode) (ws' := zzP ad cy (ad 3) (us iP [(1, q221.1)]) (us aP [(0, q221.2)]) iB lB aB iC aC) (As := [.int v5]) (rest := [.ref (ad 0)]) ⟨hx, hb, hml, hown, hts⟩ (c_B_roleWord l dC dI cy (fun i => ad (i + 3)) H.size v5 iB lB aB iC aC q231 e231) (cwV 1 hts (goodV m_ml_X3_73 m_im_X0_roleWord m_se_X0_roleWord m_in_X0 m_cd_X0_roleWord) rfl rfl rfl (by decide +kernel) ⟨Nat.le_of_ble_eq_true rfl, Nat.le_of_ble_eq_true rfl⟩) hN hK hP hD hS hA [3, 4, 5, 6, 7, 8, 9, 10, 11, 12, 13, 14, 15, 16, 17, 18] [none, none, none, some 0, some 1, some 2, some 3, some 4, some 5, some 6, some 7, some 8, some 9, some 10, some 11, some 12, some 13, some 14, some 15] rfl rfl rfl rfl rfl rfl 3 rfl rfl rfl hl.1 rfl (Nat.le_of_ble_eq_true rfl) dX3_printNode_231 ⟨Nat.zero_le _, Nat.zero_le _⟩ (fun H locs hP hD hS => ?_)
    obtain ⟨q234, e234, h⟩ := g_b h
    refine callVvs (cc := cX3_printNode) (w1 := zzP ad cy (ad 3) (us iP [(1, q234.1)]) (us aP [(0, q234.2)]) iB lB aB iC aC) (As := [.long q231]) (rest := []) ⟨hx, hb, hml, hown, hts⟩ (c_P_putBehind l dC dI cy ad H.size N q231 ((us iP [(1, q221.1)])) ((us aP [(0, q221.2)])) iB lB aB iC aC q234 e234) (cwV 1 hts (goodV m_ml_X3_66 m_im_X3_putBehind m_se_X3_putBehind m_in_X3 m_cd_X3_putBehind) rfl rfl rfl (by decide +kernel) ⟨Nat.le_of_ble_eq_true rfl, Nat.le_of_ble_eq_true rfl⟩) hN hK hP hD hS hA rfl 0 rfl rfl rfl hl.1 rfl (Nat.le_of_ble_eq_true rfl) dX3_printNode_234 ⟨Nat.zero_le _, Nat.zero_le _⟩ (fun H locs hP hD hS => ?_)
    refine lv_aload_n hx hb dX3_printNode_237 rfl (lv_at hl 0 rfl) ?_
    refine lv_iload hx hb dX3_printNode_238 (lv_at hl 2 rfl) ?_
    refine lv_aload_n hx hb dX3_printNode_240 rfl (lv_at hl 1 rfl) ?_
    refine lv_iload hx hb dX3_printNode_241 (lv_at hl 2 rfl) ?_
    obtain ⟨q243, e243, h⟩ := g_b h
    refine callVi (cc := cX3_printNode) (ws' := zzP ad cy (ad 3) (us iP [(1, q234.1)]) (us aP [(0, q234.2)]) iB lB aB iC aC) (As := [.int v4]) (rest := [.int v4, .ref (ad 0)]) ⟨hx, hb, hml, hown, hts⟩ (c_C_sortOf l dC dI cy (fun i => ad (i + 10)) H.size v4 iC aC q243 e243) (cwV 1 hts (goodV m_ml_X3_103 m_im_X1_sortOf m_se_X1_sortOf m_in_X1 m_cd_X1_sortOf) rfl rfl rfl (by decide +kernel) ⟨Nat.le_of_ble_eq_true rfl, Nat.le_of_ble_eq_true rfl⟩) hN hK hP hD hS hA [10, 11, 12, 13, 14, 15, 16, 17, 18] [none, none, none, none, none, none, none, none, none, none, some 0, some 1, some 2, some 3, some 4, some 5, some 6, some 7, some 8] rfl rfl rfl rfl rfl rfl 10 rfl rfl rfl hl.1 rfl (Nat.le_of_ble_eq_true rfl) dX3_printNode_243 ⟨Nat.zero_le _, Nat.zero_le _⟩ (fun H locs hP hD hS => ?_)
    refine lv_bipush (v := 6) hx hb dX3_printNode_246 (by decide) ?_
    refine lv_icmp_lt (tgt := 255) hx hb dX3_printNode_248 (by decide) (fun cz => ?_) (fun cz => ?_)
    · have h := g_t h cz
      refine lv_iconst (v := 0) hx hb dX3_printNode_255 (by decide) ?_
      exact B256 v4 ((0 : Int32)) q234.1 q234.2 H locs ls h hP hD hS (lv_sub hl [] rfl)
    · have h := g_f h cz
      refine lv_iconst (v := 1) hx hb dX3_printNode_251 (by decide) ?_
      refine lv_goto (tgt := 256) hx hb dX3_printNode_252 (by decide) ?_
      exact B256 v4 ((1 : Int32)) q234.1 q234.2 H locs ls h hP hD hS (lv_sub hl [] rfl)
  have B200 : ∀ (s1 : Int32) (s2 : Int32) (x_iP1 : Int32) (x_aP0 : Nat → Int32) (H : Heap) (locs : List Loc) (ls : Array Slot), f_P_printNode_200 N (iB 3) (iB 5) (lB 2) (lB 4) (iC 4) (aC 0) (aC 1) (aC 2) (iP 1) (iP 4) (aP 0) (aP 3) s1 s2 x_iP1 x_aP0 = some q → va_P (dC, dI) vwCl (zzP ad cy (ad 3) (us iP [(1, x_iP1)]) (us aP [(0, x_aP0)]) iB lB aB iC aC) H → va_D A (zzP ad cy (ad 3) (us iP [(1, x_iP1)]) (us aP [(0, x_aP0)]) iB lB aB iC aC) → va_S A s.heap H locs → lv_has ls 6 [] → W p l e ({ frames := 2, cells := 0, slots := 0, locals := 47 } : Room) s m args below meth c H locs 0 0 QQ (F0 m 200 ls [.int s2, .int s1, .ref (ad 0)]) := by
    intro s1 s2 x_iP1 x_aP0 H locs ls h hP hD hS hl
    unfold f_P_printNode_200 at h
    obtain ⟨q200, e200, h⟩ := g_b h
    refine callVvs (cc := cX3_printNode) (w1 := zzP ad cy (ad 3) (us iP [(1, x_iP1), (4, q200.1)]) (us aP [(0, x_aP0), (3, q200.2)]) iB lB aB iC aC) (As := [.int s1, .int s2]) (rest := []) ⟨hx, hb, hml, hown, hts⟩ (c_P_awaitPart l dC dI cy ad H.size s1 s2 ((us iP [(1, x_iP1)])) ((us aP [(0, x_aP0)])) iB lB aB iC aC q200 e200) (cwV 2 hts (goodV m_ml_X3_115 m_im_X3_awaitPart m_se_X3_awaitPart m_in_X3 m_cd_X3_awaitPart) rfl rfl rfl (by decide +kernel) ⟨Nat.le_of_ble_eq_true rfl, Nat.le_of_ble_eq_true rfl⟩) hN hK hP hD hS hA rfl 0 rfl rfl rfl hl.1 rfl (Nat.le_of_ble_eq_true rfl) dX3_printNode_200 ⟨Nat.zero_le _, Nat.zero_le _⟩ (fun H locs hP hD hS => ?_)
    refine lv_goto (tgt := 259) hx hb dX3_printNode_203 (by decide) ?_
    have h' := Option.some.inj h
    rw [← hQQ]
    exact W.vret hx hb hr (fun t ht hW => ⟨⟨(), rfl, trivial, by rw [← hWQ, ← h', ht]; exact hP, va_K.moved hW.alike hK⟩, hS.F ht⟩) hS.2.2 dX3_printNode_259
  intro H locs hP hD hS
  unfold f_P_printNode at h
  refine lv_aload_n hx hb dX3_printNode_0 rfl (lv_at hl 0 rfl) ?_
  refine va_get (D := (dC, dI)) (ci := 3) (v := .ref (ad 3)) (C := RX3) (T := TX3) (N := 5) hx hb hts ki3 hown hK hP 0 rfl rfl 2 (by decide) kf19 (fun _ h9 => h9) rfl dX3_printNode_1 ?_
  refine va_get (D := (dC, dI)) (ci := 0) (v := .ref (ad 10)) (C := RX0) (T := TX0) (N := 15) hx hb hts ki0 hown hK hP 3 rfl rfl 0 (by decide) kf99 (fun _ h9 => h9) rfl dX3_printNode_4 ?_
  refine lv_astore_n (lv' := [(2, .ref (ad 10)), (0, .ref (ad 0)), (1, .int a1)]) hx hb dX3_printNode_7 rfl hl (by decide) rfl (fun ls hl => ?_)
  refine lv_aload_n hx hb dX3_printNode_8 rfl (lv_at hl 0 rfl) ?_
  refine lv_iload_n hx hb dX3_printNode_9 rfl (lv_at hl 2 rfl) ?_
  obtain ⟨q10, e10, h⟩ := g_b h
  refine callVi (cc := cX3_printNode) (ws' := zzP ad cy (ad 3) iP aP iB lB aB iC aC) (As := [.int a1]) (rest := []) ⟨hx, hb, hml, hown, hts⟩ (c_C_sortOf l dC dI cy (fun i => ad (i + 10)) H.size a1 iC aC q10 e10) (cwV 1 hts (goodV m_ml_X3_103 m_im_X1_sortOf m_se_X1_sortOf m_in_X1 m_cd_X1_sortOf) rfl rfl rfl (by decide +kernel) ⟨Nat.le_of_ble_eq_true rfl, Nat.le_of_ble_eq_true rfl⟩) hN hK hP hD hS hA [10, 11, 12, 13, 14, 15, 16, 17, 18] [none, none, none, none, none, none, none, none, none, none, some 0, some 1, some 2, some 3, some 4, some 5, some 6, some 7, some 8] rfl rfl rfl rfl rfl rfl 10 rfl rfl rfl hl.1 rfl (Nat.le_of_ble_eq_true rfl) dX3_printNode_10 ⟨Nat.zero_le _, Nat.zero_le _⟩ (fun H locs hP hD hS => ?_)
  refine lv_istore_n (lv' := [(3, .int q10), (2, .ref (ad 10)), (0, .ref (ad 0)), (1, .int a1)]) hx hb dX3_printNode_13 rfl hl (by decide) rfl (fun ls hl => ?_)
  refine lv_aload_n hx hb dX3_printNode_14 rfl (lv_at hl 1 rfl) ?_
  refine lv_iload_n hx hb dX3_printNode_15 rfl (lv_at hl 3 rfl) ?_
  obtain ⟨q16, e16, h⟩ := g_b h
  refine callVi (cc := cX3_printNode) (ws' := zzP ad cy (ad 3) iP aP iB lB aB iC aC) (As := [.int a1]) (rest := []) ⟨hx, hb, hml, hown, hts⟩ (c_C_leftOf l dC dI cy (fun i => ad (i + 10)) H.size a1 iC aC q16 e16) (cwV 1 hts (goodV m_ml_X3_106 m_im_X1_leftOf m_se_X1_leftOf m_in_X1 m_cd_X1_leftOf) rfl rfl rfl (by decide +kernel) ⟨Nat.le_of_ble_eq_true rfl, Nat.le_of_ble_eq_true rfl⟩) hN hK hP hD hS hA [10, 11, 12, 13, 14, 15, 16, 17, 18] [none, none, none, none, none, none, none, none, none, none, some 0, some 1, some 2, some 3, some 4, some 5, some 6, some 7, some 8] rfl rfl rfl rfl rfl rfl 10 rfl rfl rfl hl.1 rfl (Nat.le_of_ble_eq_true rfl) dX3_printNode_16 ⟨Nat.zero_le _, Nat.zero_le _⟩ (fun H locs hP hD hS => ?_)
  refine lv_istore (lv' := [(4, .int q16), (3, .int q10), (2, .ref (ad 10)), (0, .ref (ad 0)), (1, .int a1)]) hx hb dX3_printNode_19 hl (by decide) rfl (fun ls hl => ?_)
  refine lv_aload_n hx hb dX3_printNode_21 rfl (lv_at hl 2 rfl) ?_
  refine lv_iload_n hx hb dX3_printNode_22 rfl (lv_at hl 4 rfl) ?_
  obtain ⟨q23, e23, h⟩ := g_b h
  refine callVi (cc := cX3_printNode) (ws' := zzP ad cy (ad 3) iP aP iB lB aB iC aC) (As := [.int a1]) (rest := []) ⟨hx, hb, hml, hown, hts⟩ (c_C_rightOf l dC dI cy (fun i => ad (i + 10)) H.size a1 iC aC q23 e23) (cwV 1 hts (goodV m_ml_X3_107 m_im_X1_rightOf m_se_X1_rightOf m_in_X1 m_cd_X1_rightOf) rfl rfl rfl (by decide +kernel) ⟨Nat.le_of_ble_eq_true rfl, Nat.le_of_ble_eq_true rfl⟩) hN hK hP hD hS hA [10, 11, 12, 13, 14, 15, 16, 17, 18] [none, none, none, none, none, none, none, none, none, none, some 0, some 1, some 2, some 3, some 4, some 5, some 6, some 7, some 8] rfl rfl rfl rfl rfl rfl 10 rfl rfl rfl hl.1 rfl (Nat.le_of_ble_eq_true rfl) dX3_printNode_23 ⟨Nat.zero_le _, Nat.zero_le _⟩ (fun H locs hP hD hS => ?_)
  refine lv_istore (lv' := [(5, .int q23), (4, .int q16), (3, .int q10), (2, .ref (ad 10)), (0, .ref (ad 0)), (1, .int a1)]) hx hb dX3_printNode_26 hl (by decide) rfl (fun ls hl => ?_)
  refine lv_iload_n hx hb dX3_printNode_28 rfl (lv_at hl 2 rfl) ?_
  rcases Decidable.em (q10 = (0 : Int32)) with c0 | c0
  · have h := g_t h c0
    refine lv_tableIn (off := 47) (tgt := 76) hx hb dX3_printNode_29 (by rw [c0]; decide) (by rw [c0]; decide) (by rw [c0]; rfl) (by decide) ?_
    refine lv_aload_n hx hb dX3_printNode_76 rfl (lv_at hl 4 rfl) ?_
    refine lv_aload_n hx hb dX3_printNode_77 rfl (lv_at hl 4 rfl) ?_
    refine va_get (D := (dC, dI)) (ci := 3) (v := .ref (ad 3)) (C := RX3) (T := TX3) (N := 5) hx hb hts ki3 hown hK hP 0 rfl rfl 2 (by decide) kf19 (fun _ h9 => h9) rfl dX3_printNode_78 ?_
    refine lv_iload hx hb dX3_printNode_81 (lv_at hl 1 rfl) ?_
    obtain ⟨q83, e83, h⟩ := g_b h
    refine callVl (cc := cX3_printNode) (ws' := zzP ad cy (ad 3) iP aP iB lB aB iC aC) (As := [.int q16]) (rest := [.ref (ad 0)]) ⟨hx, hb, hml, hown, hts⟩ (c_B_nameWord l dC dI cy (fun i => ad (i + 3)) H.size q16 iB lB aB iC aC q83 e83) (cwV 1 hts (goodV m_ml_X3_108 m_im_X0_nameWord m_se_X0_nameWord m_in_X0 m_cd_X0_nameWord) rfl rfl rfl (by decide +kernel) ⟨Nat.le_of_ble_eq_true rfl, Nat.le_of_ble_eq_true rfl⟩) hN hK hP hD hS hA [3, 4, 5, 6, 7, 8, 9, 10, 11, 12, 13, 14, 15, 16, 17, 18] [none, none, none, some 0, some 1, some 2, some 3, some 4, some 5, some 6, some 7, some 8, some 9, some 10, some 11, some 12, some 13, some 14, some 15] rfl rfl rfl rfl rfl rfl 3 rfl rfl rfl hl.1 rfl (Nat.le_of_ble_eq_true rfl) dX3_printNode_83 ⟨Nat.zero_le _, Nat.zero_le _⟩ (fun H locs hP hD hS => ?_)
    obtain ⟨q86, e86, h⟩ := g_b h
    refine callVvs (cc := cX3_printNode) (w1 := zzP ad cy (ad 3) (us iP [(1, q86.1)]) (us aP [(0, q86.2)]) iB lB aB iC aC) (As := [.long q83]) (rest := []) ⟨hx, hb, hml, hown, hts⟩ (c_P_putWord l dC dI cy ad H.size N q83 iP aP iB lB aB iC aC q86 e86) (cwV 1 hts (goodV m_ml_X3_42 m_im_X3_putWord m_se_X3_putWord m_in_X3 m_cd_X3_putWord) rfl rfl rfl (by decide +kernel) ⟨Nat.le_of_ble_eq_true rfl, Nat.le_of_ble_eq_true rfl⟩) hN hK hP hD hS hA rfl 0 rfl rfl rfl hl.1 rfl (Nat.le_of_ble_eq_true rfl) dX3_printNode_86 ⟨Nat.zero_le _, Nat.zero_le _⟩ (fun H locs hP hD hS => ?_)
    refine lv_goto (tgt := 259) hx hb dX3_printNode_89 (by decide) ?_
    have h' := Option.some.inj h
    rw [← hQQ]
    exact W.vret hx hb hr (fun t ht hW => ⟨⟨(), rfl, trivial, by rw [← hWQ, ← h', ht]; exact hP, va_K.moved hW.alike hK⟩, hS.F ht⟩) hS.2.2 dX3_printNode_259
  · have h := g_f h c0
    rcases Decidable.em (q10 = (1 : Int32)) with c1 | c1
    · have h := g_t h c1
      refine lv_tableIn (off := 63) (tgt := 92) hx hb dX3_printNode_29 (by rw [c1]; decide) (by rw [c1]; decide) (by rw [c1]; rfl) (by decide) ?_
      refine lv_aload_n hx hb dX3_printNode_92 rfl (lv_at hl 4 rfl) ?_
      refine lv_ldc2 (v := 7630704) hx hb hown kc111 dX3_printNode_93 ?_
      obtain ⟨q96, e96, h⟩ := g_b h
      refine callVvs (cc := cX3_printNode) (w1 := zzP ad cy (ad 3) (us iP [(1, q96.1)]) (us aP [(0, q96.2)]) iB lB aB iC aC) (As := [.long ((7630704 : Int64))]) (rest := []) ⟨hx, hb, hml, hown, hts⟩ (c_P_putWord l dC dI cy ad H.size N ((7630704 : Int64)) iP aP iB lB aB iC aC q96 e96) (cwV 1 hts (goodV m_ml_X3_42 m_im_X3_putWord m_se_X3_putWord m_in_X3 m_cd_X3_putWord) rfl rfl rfl (by decide +kernel) ⟨Nat.le_of_ble_eq_true rfl, Nat.le_of_ble_eq_true rfl⟩) hN hK hP hD hS hA rfl 0 rfl rfl rfl hl.1 rfl (Nat.le_of_ble_eq_true rfl) dX3_printNode_96 ⟨Nat.zero_le _, Nat.zero_le _⟩ (fun H locs hP hD hS => ?_)
      refine lv_goto (tgt := 259) hx hb dX3_printNode_99 (by decide) ?_
      have h' := Option.some.inj h
      rw [← hQQ]
      exact W.vret hx hb hr (fun t ht hW => ⟨⟨(), rfl, trivial, by rw [← hWQ, ← h', ht]; exact hP, va_K.moved hW.alike hK⟩, hS.F ht⟩) hS.2.2 dX3_printNode_259
    · have h := g_f h c1
      rcases Decidable.em (q10 = (2 : Int32)) with c2 | c2
      · have h := g_t h c2
        refine lv_tableIn (off := 73) (tgt := 102) hx hb dX3_printNode_29 (by rw [c2]; decide) (by rw [c2]; decide) (by rw [c2]; rfl) (by decide) ?_
        refine lv_aload_n hx hb dX3_printNode_102 rfl (lv_at hl 4 rfl) ?_
        refine lv_ldc2 (v := 108230834679661) hx hb hown kc113 dX3_printNode_103 ?_
        obtain ⟨q106, e106, h⟩ := g_b h
        refine callVvs (cc := cX3_printNode) (w1 := zzP ad cy (ad 3) (us iP [(1, q106.1)]) (us aP [(0, q106.2)]) iB lB aB iC aC) (As := [.long ((108230834679661 : Int64))]) (rest := []) ⟨hx, hb, hml, hown, hts⟩ (c_P_putWord l dC dI cy ad H.size N ((108230834679661 : Int64)) iP aP iB lB aB iC aC q106 e106) (cwV 1 hts (goodV m_ml_X3_42 m_im_X3_putWord m_se_X3_putWord m_in_X3 m_cd_X3_putWord) rfl rfl rfl (by decide +kernel) ⟨Nat.le_of_ble_eq_true rfl, Nat.le_of_ble_eq_true rfl⟩) hN hK hP hD hS hA rfl 0 rfl rfl rfl hl.1 rfl (Nat.le_of_ble_eq_true rfl) dX3_printNode_106 ⟨Nat.zero_le _, Nat.zero_le _⟩ (fun H locs hP hD hS => ?_)
        refine lv_goto (tgt := 259) hx hb dX3_printNode_109 (by decide) ?_
        have h' := Option.some.inj h
        rw [← hQQ]
        exact W.vret hx hb hr (fun t ht hW => ⟨⟨(), rfl, trivial, by rw [← hWQ, ← h', ht]; exact hP, va_K.moved hW.alike hK⟩, hS.F ht⟩) hS.2.2 dX3_printNode_259
      · have h := g_f h c2
        rcases Decidable.em (q10 = (3 : Int32)) with c3 | c3
        · have h := g_t h c3
          refine lv_tableIn (off := 145) (tgt := 174) hx hb dX3_printNode_29 (by rw [c3]; decide) (by rw [c3]; decide) (by rw [c3]; rfl) (by decide) ?_
          refine lv_aload_n hx hb dX3_printNode_174 rfl (lv_at hl 4 rfl) ?_
          refine lv_ldc2 (v := 7237492) hx hb hown kc119 dX3_printNode_175 ?_
          obtain ⟨q178, e178, h⟩ := g_b h
          refine callVvs (cc := cX3_printNode) (w1 := zzP ad cy (ad 3) (us iP [(1, q178.1)]) (us aP [(0, q178.2)]) iB lB aB iC aC) (As := [.long ((7237492 : Int64))]) (rest := []) ⟨hx, hb, hml, hown, hts⟩ (c_P_putBehind l dC dI cy ad H.size N ((7237492 : Int64)) iP aP iB lB aB iC aC q178 e178) (cwV 1 hts (goodV m_ml_X3_66 m_im_X3_putBehind m_se_X3_putBehind m_in_X3 m_cd_X3_putBehind) rfl rfl rfl (by decide +kernel) ⟨Nat.le_of_ble_eq_true rfl, Nat.le_of_ble_eq_true rfl⟩) hN hK hP hD hS hA rfl 0 rfl rfl rfl hl.1 rfl (Nat.le_of_ble_eq_true rfl) dX3_printNode_178 ⟨Nat.zero_le _, Nat.zero_le _⟩ (fun H locs hP hD hS => ?_)
          refine lv_aload_n hx hb dX3_printNode_181 rfl (lv_at hl 4 rfl) ?_
          refine lv_iload hx hb dX3_printNode_182 (lv_at hl 1 rfl) ?_
          refine lv_aload_n hx hb dX3_printNode_184 rfl (lv_at hl 3 rfl) ?_
          refine lv_iload hx hb dX3_printNode_185 (lv_at hl 1 rfl) ?_
          obtain ⟨q187, e187, h⟩ := g_b h
          refine callVi (cc := cX3_printNode) (ws' := zzP ad cy (ad 3) (us iP [(1, q178.1)]) (us aP [(0, q178.2)]) iB lB aB iC aC) (As := [.int q16]) (rest := [.int q16, .ref (ad 0)]) ⟨hx, hb, hml, hown, hts⟩ (c_C_sortOf l dC dI cy (fun i => ad (i + 10)) H.size q16 iC aC q187 e187) (cwV 1 hts (goodV m_ml_X3_103 m_im_X1_sortOf m_se_X1_sortOf m_in_X1 m_cd_X1_sortOf) rfl rfl rfl (by decide +kernel) ⟨Nat.le_of_ble_eq_true rfl, Nat.le_of_ble_eq_true rfl⟩) hN hK hP hD hS hA [10, 11, 12, 13, 14, 15, 16, 17, 18] [none, none, none, none, none, none, none, none, none, none, some 0, some 1, some 2, some 3, some 4, some 5, some 6, some 7, some 8] rfl rfl rfl rfl rfl rfl 10 rfl rfl rfl hl.1 rfl (Nat.le_of_ble_eq_true rfl) dX3_printNode_187 ⟨Nat.zero_le _, Nat.zero_le _⟩ (fun H locs hP hD hS => ?_)
          refine lv_bipush (v := 6) hx hb dX3_printNode_190 (by decide) ?_
          refine lv_icmp_lt (tgt := 199) hx hb dX3_printNode_192 (by decide) (fun cz => ?_) (fun cz => ?_)
          · have h := g_t h cz
            refine lv_iconst (v := 0) hx hb dX3_printNode_199 (by decide) ?_
            exact B200 q16 ((0 : Int32)) q178.1 q178.2 H locs ls h hP hD hS (lv_sub hl [] rfl)
          · have h := g_f h cz
            refine lv_iconst (v := 1) hx hb dX3_printNode_195 (by decide) ?_
            refine lv_goto (tgt := 200) hx hb dX3_printNode_196 (by decide) ?_
            exact B200 q16 ((1 : Int32)) q178.1 q178.2 H locs ls h hP hD hS (lv_sub hl [] rfl)
        · have h := g_f h c3
          rcases Decidable.em (q10 = (4 : Int32)) with c4 | c4
          · have h := g_t h c4
            refine lv_tableIn (off := 177) (tgt := 206) hx hb dX3_printNode_29 (by rw [c4]; decide) (by rw [c4]; decide) (by rw [c4]; rfl) (by decide) ?_
            refine lv_aload_n hx hb dX3_printNode_206 rfl (lv_at hl 4 rfl) ?_
            refine lv_iload_n hx hb dX3_printNode_207 rfl (lv_at hl 2 rfl) ?_
            refine lv_iconst (v := 4) hx hb dX3_printNode_208 (by decide) ?_
            refine lv_icmp_ne (tgt := 218) hx hb dX3_printNode_209 (by decide) (fun cz => ?_) (fun cz => ?_)
            · have h := g_f h cz
              refine lv_ldc2 (v := 435778056825) hx hb hown kc123 dX3_printNode_218 ?_
              exact B221 q16 q23 ((435778056825 : Int64)) H locs ls h hP hD hS (lv_sub hl [4, 3, 1, 0] rfl)
            · have h := g_t h cz
              refine lv_ldc2 (v := 1936682341) hx hb hown kc121 dX3_printNode_212 ?_
              refine lv_goto (tgt := 221) hx hb dX3_printNode_215 (by decide) ?_
              exact B221 q16 q23 ((1936682341 : Int64)) H locs ls h hP hD hS (lv_sub hl [4, 3, 1, 0] rfl)
          · have h := g_f h c4
            rcases Decidable.em (q10 = (5 : Int32)) with c5 | c5
            · have h := g_t h c5
              refine lv_tableIn (off := 177) (tgt := 206) hx hb dX3_printNode_29 (by rw [c5]; decide) (by rw [c5]; decide) (by rw [c5]; rfl) (by decide) ?_
              refine lv_aload_n hx hb dX3_printNode_206 rfl (lv_at hl 4 rfl) ?_
              refine lv_iload_n hx hb dX3_printNode_207 rfl (lv_at hl 2 rfl) ?_
              refine lv_iconst (v := 4) hx hb dX3_printNode_208 (by decide) ?_
              refine lv_icmp_ne (tgt := 218) hx hb dX3_printNode_209 (by decide) (fun cz => ?_) (fun cz => ?_)
              · have h := g_f h cz
                refine lv_ldc2 (v := 435778056825) hx hb hown kc123 dX3_printNode_218 ?_
                exact B221 q16 q23 ((435778056825 : Int64)) H locs ls h hP hD hS (lv_sub hl [4, 3, 1, 0] rfl)
              · have h := g_t h cz
                refine lv_ldc2 (v := 1936682341) hx hb hown kc121 dX3_printNode_212 ?_
                refine lv_goto (tgt := 221) hx hb dX3_printNode_215 (by decide) ?_
                exact B221 q16 q23 ((1936682341 : Int64)) H locs ls h hP hD hS (lv_sub hl [4, 3, 1, 0] rfl)
            · have h := g_f h c5
              rcases Decidable.em (q10 = (6 : Int32)) with c6 | c6
              · have h := g_t h c6
                refine lv_tableIn (off := 83) (tgt := 112) hx hb dX3_printNode_29 (by rw [c6]; decide) (by rw [c6]; decide) (by rw [c6]; rfl) (by decide) ?_
                refine lv_aload_n hx hb dX3_printNode_112 rfl (lv_at hl 4 rfl) ?_
                refine lv_iload hx hb dX3_printNode_113 (lv_at hl 0 rfl) ?_
                refine lv_aload_n hx hb dX3_printNode_115 rfl (lv_at hl 3 rfl) ?_
                refine lv_iload hx hb dX3_printNode_116 (lv_at hl 0 rfl) ?_
                obtain ⟨q118, e118, h⟩ := g_b h
                refine callVi (cc := cX3_printNode) (ws' := zzP ad cy (ad 3) iP aP iB lB aB iC aC) (As := [.int q23]) (rest := [.int q23, .ref (ad 0)]) ⟨hx, hb, hml, hown, hts⟩ (c_C_sortOf l dC dI cy (fun i => ad (i + 10)) H.size q23 iC aC q118 e118) (cwV 1 hts (goodV m_ml_X3_103 m_im_X1_sortOf m_se_X1_sortOf m_in_X1 m_cd_X1_sortOf) rfl rfl rfl (by decide +kernel) ⟨Nat.le_of_ble_eq_true rfl, Nat.le_of_ble_eq_true rfl⟩) hN hK hP hD hS hA [10, 11, 12, 13, 14, 15, 16, 17, 18] [none, none, none, none, none, none, none, none, none, none, some 0, some 1, some 2, some 3, some 4, some 5, some 6, some 7, some 8] rfl rfl rfl rfl rfl rfl 10 rfl rfl rfl hl.1 rfl (Nat.le_of_ble_eq_true rfl) dX3_printNode_118 ⟨Nat.zero_le _, Nat.zero_le _⟩ (fun H locs hP hD hS => ?_)
                refine lv_iload_n hx hb dX3_printNode_121 rfl (lv_at hl 2 rfl) ?_
                refine lv_icmp_lt (tgt := 129) hx hb dX3_printNode_122 (by decide) (fun cz => ?_) (fun cz => ?_)
                · have h := g_t h cz
                  refine lv_iconst (v := 0) hx hb dX3_printNode_129 (by decide) ?_
                  exact B130 q10 q16 q23 ((0 : Int32)) H locs ls h hP hD hS (lv_sub hl [4, 3, 2, 1] rfl)
                · have h := g_f h cz
                  refine lv_iconst (v := 1) hx hb dX3_printNode_125 (by decide) ?_
                  refine lv_goto (tgt := 130) hx hb dX3_printNode_126 (by decide) ?_
                  exact B130 q10 q16 q23 ((1 : Int32)) H locs ls h hP hD hS (lv_sub hl [4, 3, 2, 1] rfl)
              · have h := g_f h c6
                rcases Decidable.em (q10 = (7 : Int32)) with c7 | c7
                · have h := g_t h c7
                  refine lv_tableIn (off := 83) (tgt := 112) hx hb dX3_printNode_29 (by rw [c7]; decide) (by rw [c7]; decide) (by rw [c7]; rfl) (by decide) ?_
                  refine lv_aload_n hx hb dX3_printNode_112 rfl (lv_at hl 4 rfl) ?_
                  refine lv_iload hx hb dX3_printNode_113 (lv_at hl 0 rfl) ?_
                  refine lv_aload_n hx hb dX3_printNode_115 rfl (lv_at hl 3 rfl) ?_
                  refine lv_iload hx hb dX3_printNode_116 (lv_at hl 0 rfl) ?_
                  obtain ⟨q118, e118, h⟩ := g_b h
                  refine callVi (cc := cX3_printNode) (ws' := zzP ad cy (ad 3) iP aP iB lB aB iC aC) (As := [.int q23]) (rest := [.int q23, .ref (ad 0)]) ⟨hx, hb, hml, hown, hts⟩ (c_C_sortOf l dC dI cy (fun i => ad (i + 10)) H.size q23 iC aC q118 e118) (cwV 1 hts (goodV m_ml_X3_103 m_im_X1_sortOf m_se_X1_sortOf m_in_X1 m_cd_X1_sortOf) rfl rfl rfl (by decide +kernel) ⟨Nat.le_of_ble_eq_true rfl, Nat.le_of_ble_eq_true rfl⟩) hN hK hP hD hS hA [10, 11, 12, 13, 14, 15, 16, 17, 18] [none, none, none, none, none, none, none, none, none, none, some 0, some 1, some 2, some 3, some 4, some 5, some 6, some 7, some 8] rfl rfl rfl rfl rfl rfl 10 rfl rfl rfl hl.1 rfl (Nat.le_of_ble_eq_true rfl) dX3_printNode_118 ⟨Nat.zero_le _, Nat.zero_le _⟩ (fun H locs hP hD hS => ?_)
                  refine lv_iload_n hx hb dX3_printNode_121 rfl (lv_at hl 2 rfl) ?_
                  refine lv_icmp_lt (tgt := 129) hx hb dX3_printNode_122 (by decide) (fun cz => ?_) (fun cz => ?_)
                  · have h := g_t h cz
                    refine lv_iconst (v := 0) hx hb dX3_printNode_129 (by decide) ?_
                    exact B130 q10 q16 q23 ((0 : Int32)) H locs ls h hP hD hS (lv_sub hl [4, 3, 2, 1] rfl)
                  · have h := g_f h cz
                    refine lv_iconst (v := 1) hx hb dX3_printNode_125 (by decide) ?_
                    refine lv_goto (tgt := 130) hx hb dX3_printNode_126 (by decide) ?_
                    exact B130 q10 q16 q23 ((1 : Int32)) H locs ls h hP hD hS (lv_sub hl [4, 3, 2, 1] rfl)
                · have h := g_f h c7
                  refine lv_tableOut (tgt := 206) hx hb dX3_printNode_29 (by have z0 := tne (n := 0) (by decide) c0; have z1 := tne (n := 1) (by decide) c1; have z2 := tne (n := 2) (by decide) c2; have z3 := tne (n := 3) (by decide) c3; have z4 := tne (n := 4) (by decide) c4; have z5 := tne (n := 5) (by decide) c5; have z6 := tne (n := 6) (by decide) c6; have z7 := tne (n := 7) (by decide) c7; omega) (by decide) ?_
                  refine lv_aload_n hx hb dX3_printNode_206 rfl (lv_at hl 4 rfl) ?_
                  refine lv_iload_n hx hb dX3_printNode_207 rfl (lv_at hl 2 rfl) ?_
                  refine lv_iconst (v := 4) hx hb dX3_printNode_208 (by decide) ?_
                  refine lv_icmp_ne (tgt := 218) hx hb dX3_printNode_209 (by decide) (fun cz => ?_) (fun cz => ?_)
                  · have h := g_f h cz
                    refine lv_ldc2 (v := 435778056825) hx hb hown kc123 dX3_printNode_218 ?_
                    exact B221 q16 q23 ((435778056825 : Int64)) H locs ls h hP hD hS (lv_sub hl [4, 3, 1, 0] rfl)
                  · have h := g_t h cz
                    refine lv_ldc2 (v := 1936682341) hx hb hown kc121 dX3_printNode_212 ?_
                    refine lv_goto (tgt := 221) hx hb dX3_printNode_215 (by decide) ?_
                    exact B221 q16 q23 ((1936682341 : Int64)) H locs ls h hP hD hS (lv_sub hl [4, 3, 1, 0] rfl)
set_option maxHeartbeats 8000000 in
set_option maxRecDepth 100000 in
theorem c_P_putJoint (l : Launch) (dC : Nat → ClassId) (dI : Nat → Nat → Nat) (cy : Nat → ClassId) (ad : Nat → Nat) (sz : Nat) (N : Nat) (a1 : Int64) (iP : Nat → Int32) (aP : Nat → Nat → Int32) (iB : Nat → Int32) (lB : Nat → Nat → Int64) (aB : Nat → Nat → Int32) (iC : Nat → Int32) (aC : Nat → Nat → Int32) (q : Int32 × (Nat → Int32)) (h : f_P_putJoint N a1 (iP 1) (aP 0) = some q) : Met l yX3_putJoint wsX3_putJoint ({ frames := 2, cells := 0, slots := 0, locals := 47 } : Room) (cP (dC, dI) cy [.ref (ad 0), .long a1] (zzP ad cy (ad 3) iP aP iB lB aB iC aC) sz) (cQv (dC, dI) cy (zzP ad cy (ad 3) (us iP [(1, q.1)]) (us aP [(0, q.2)]) iB lB aB iC aC) (va_A (zzP ad cy (ad 3) iP aP iB lB aB iC aC) sz)) 0 0 (va_A (zzP ad cy (ad 3) iP aP iB lB aB iC aC) sz) := by
  refine Met.ofW (cc := cX3_putJoint) (maxL := 3) (ret := none) (by decide) rfl ?_
  intro p e s m args below meth c s₁ B hml hv
  obtain ⟨hav, hsz, hP, hK, hD0, hN⟩ := hv
  have hx := B.exec
  have hb := B.bytes
  have hr := B.returns
  have hts := atoms_spec (ws := wsX3_putJoint) B.pre
  have hown : s.vm.findClass RX3 = some m.cls := findClass_of_methodNamed B.named
  have hlocks := B.notSynchronized
  subst hsz
  have hD := hD0.self (sz := s.heap.size)
  generalize hAe : va_A (zzP ad cy (ad 3) iP aP iB lB aB iC aC) s.heap.size = A at hD ⊢
  have hA : ∀ q : Nat, s.heap.size ≤ q → A q := fun q h => by rw [← hAe]; exact Or.inr h
  have hS : va_S A s.heap s.heap [] := va_S.rf
  generalize hWQ : (zzP ad cy (ad 3) (us iP [(1, q.1)]) (us aP [(0, q.2)]) iB lB aB iC aC) = WQ
  generalize hQQ : MQ below (cQv (dC, dI) cy WQ A) args s 0 0 A = QQ
  have hl := lv_entry ([.ref (ad 0), .long a1] : List Value) (n := 3) (Nat.le_of_ble_eq_true rfl)
  have hfr := lg_entry_eq m ([.ref (ad 0), .long a1] : List Value) 3
  rw [← hav] at hfr
  rw [hfr]
  clear hfr hav
  generalize (lg_sl ([.ref (ad 0), .long a1] : List Value) ++ List.replicate (3 - (lg_sl ([.ref (ad 0), .long a1] : List Value)).length) Slot.unset).toArray = ls at hl ⊢
  have hl : lv_has ls 3 [(0, .ref (ad 0)), (1, .long a1)] := hl
  have kc60 := hts _ (List.mem_cons_of_mem _ m_kl_X3_60)
  refine (?_ : ∀ (H : Heap) (locs : List Loc), va_P (dC, dI) vwCl (zzP ad cy (ad 3) iP aP iB lB aB iC aC) H → va_D A (zzP ad cy (ad 3) iP aP iB lB aB iC aC) → va_S A s.heap H locs → W p l e ({ frames := 2, cells := 0, slots := 0, locals := 47 } : Room) s m args below meth c H locs 0 0 QQ (F0 m 0 ls [])) s.heap [] hP hD hS
  clear hP hD hS
  intro H locs hP hD hS
  unfold f_P_putJoint at h
  refine lv_aload_n hx hb dX3_putJoint_0 rfl (lv_at hl 0 rfl) ?_
  refine lv_ldc2 (v := 32) hx hb hown kc60 dX3_putJoint_1 ?_
  obtain ⟨q4, e4, h⟩ := g_b h
  refine callVvs (cc := cX3_putJoint) (w1 := zzP ad cy (ad 3) (us iP [(1, q4.1)]) (us aP [(0, q4.2)]) iB lB aB iC aC) (As := [.long ((32 : Int64))]) (rest := []) ⟨hx, hb, hml, hown, hts⟩ (c_P_putWord l dC dI cy ad H.size N ((32 : Int64)) iP aP iB lB aB iC aC q4 e4) (cwV 1 hts (goodV m_ml_X3_42 m_im_X3_putWord m_se_X3_putWord m_in_X3 m_cd_X3_putWord) rfl rfl rfl (by decide +kernel) ⟨Nat.le_of_ble_eq_true rfl, Nat.le_of_ble_eq_true rfl⟩) hN hK hP hD hS hA rfl 0 rfl rfl rfl hl.1 rfl (Nat.le_of_ble_eq_true rfl) dX3_putJoint_4 ⟨Nat.zero_le _, Nat.zero_le _⟩ (fun H locs hP hD hS => ?_)
  refine lv_aload_n hx hb dX3_putJoint_7 rfl (lv_at hl 0 rfl) ?_
  refine lv_lload_n hx hb dX3_putJoint_8 rfl (lv_at hl 1 rfl) ?_
  obtain ⟨q9, e9, h⟩ := g_b h
  refine callVvs (cc := cX3_putJoint) (w1 := zzP ad cy (ad 3) (us iP [(1, q9.1)]) (us aP [(0, q9.2)]) iB lB aB iC aC) (As := [.long a1]) (rest := []) ⟨hx, hb, hml, hown, hts⟩ (c_P_putBehind l dC dI cy ad H.size N a1 ((us iP [(1, q4.1)])) ((us aP [(0, q4.2)])) iB lB aB iC aC q9 e9) (cwV 1 hts (goodV m_ml_X3_66 m_im_X3_putBehind m_se_X3_putBehind m_in_X3 m_cd_X3_putBehind) rfl rfl rfl (by decide +kernel) ⟨Nat.le_of_ble_eq_true rfl, Nat.le_of_ble_eq_true rfl⟩) hN hK hP hD hS hA rfl 0 rfl rfl rfl hl.1 rfl (Nat.le_of_ble_eq_true rfl) dX3_putJoint_9 ⟨Nat.zero_le _, Nat.zero_le _⟩ (fun H locs hP hD hS => ?_)
  have h' := Option.some.inj h
  rw [← hQQ]
  exact W.vret hx hb hr (fun t ht hW => ⟨⟨(), rfl, trivial, by rw [← hWQ, ← h', ht]; exact hP, va_K.moved hW.alike hK⟩, hS.F ht⟩) hS.2.2 dX3_putJoint_12
set_option maxHeartbeats 8000000 in
set_option maxRecDepth 100000 in
theorem c_P_printConcept (l : Launch) (dC : Nat → ClassId) (dI : Nat → Nat → Nat) (cy : Nat → ClassId) (ad : Nat → Nat) (sz : Nat) (N : Nat) (a1 : Int32) (iP : Nat → Int32) (aP : Nat → Nat → Int32) (iB : Nat → Int32) (lB : Nat → Nat → Int64) (aB : Nat → Nat → Int32) (iC : Nat → Int32) (aC : Nat → Nat → Int32) (q : Int32 × Int32 × (Nat → Int32) × (Nat → Int32)) (h : f_P_printConcept N a1 (iB 3) (iB 5) (lB 2) (lB 4) (iC 4) (aC 0) (aC 1) (aC 2) (iP 1) (iP 4) (aP 0) (aP 3) = some q) : Met l yX3_printConcept wsX3_printConcept ({ frames := 3, cells := 0, slots := 0, locals := 72 } : Room) (cP (dC, dI) cy [.ref (ad 0), .int a1] (zzP ad cy (ad 3) iP aP iB lB aB iC aC) sz) (cQv (dC, dI) cy (zzP ad cy (ad 3) (us iP [(1, q.1), (4, q.2.1)]) (us aP [(0, q.2.2.1), (3, q.2.2.2)]) iB lB aB iC aC) (va_A (zzP ad cy (ad 3) iP aP iB lB aB iC aC) sz)) 0 0 (va_A (zzP ad cy (ad 3) iP aP iB lB aB iC aC) sz) := by
  refine Met.ofW (cc := cX3_printConcept) (maxL := 4) (ret := none) (by decide) rfl ?_
  intro p e s m args below meth c s₁ B hml hv
  obtain ⟨hav, hsz, hP, hK, hD0, hN⟩ := hv
  have hx := B.exec
  have hb := B.bytes
  have hr := B.returns
  have hts := atoms_spec (ws := wsX3_printConcept) B.pre
  have hown : s.vm.findClass RX3 = some m.cls := findClass_of_methodNamed B.named
  have hlocks := B.notSynchronized
  subst hsz
  have hD := hD0.self (sz := s.heap.size)
  generalize hAe : va_A (zzP ad cy (ad 3) iP aP iB lB aB iC aC) s.heap.size = A at hD ⊢
  have hA : ∀ q : Nat, s.heap.size ≤ q → A q := fun q h => by rw [← hAe]; exact Or.inr h
  have hS : va_S A s.heap s.heap [] := va_S.rf
  generalize hWQ : (zzP ad cy (ad 3) (us iP [(1, q.1), (4, q.2.1)]) (us aP [(0, q.2.2.1), (3, q.2.2.2)]) iB lB aB iC aC) = WQ
  generalize hQQ : MQ below (cQv (dC, dI) cy WQ A) args s 0 0 A = QQ
  have hl := lv_entry ([.ref (ad 0), .int a1] : List Value) (n := 4) (Nat.le_of_ble_eq_true rfl)
  have hfr := lg_entry_eq m ([.ref (ad 0), .int a1] : List Value) 4
  rw [← hav] at hfr
  rw [hfr]
  clear hfr hav
  generalize (lg_sl ([.ref (ad 0), .int a1] : List Value) ++ List.replicate (4 - (lg_sl ([.ref (ad 0), .int a1] : List Value)).length) Slot.unset).toArray = ls at hl ⊢
  have hl : lv_has ls 4 [(0, .ref (ad 0)), (1, .int a1)] := hl
  have kf79 := hts _ (List.mem_cons_of_mem _ m_fl_X3_79)
  have ki3 := (fun w h => List.mem_cons_of_mem _ (i_X3 w h) : ∀ w ∈ u_ws RX3 TX3 5, w ∈ wsX3_printConcept)
  have kf15 := hts _ (List.mem_cons_of_mem _ m_fl_X3_15)
  have kc94 := hts _ (List.mem_cons_of_mem _ m_kl_X3_94)
  have kc89 := hts _ (List.mem_cons_of_mem _ m_kl_X3_89)
  have kc87 := hts _ (List.mem_cons_of_mem _ m_kl_X3_87)
  have kc85 := hts _ (List.mem_cons_of_mem _ m_kl_X3_85)
  refine (?_ : ∀ (H : Heap) (locs : List Loc), va_P (dC, dI) vwCl (zzP ad cy (ad 3) iP aP iB lB aB iC aC) H → va_D A (zzP ad cy (ad 3) iP aP iB lB aB iC aC) → va_S A s.heap H locs → W p l e ({ frames := 3, cells := 0, slots := 0, locals := 72 } : Room) s m args below meth c H locs 0 0 QQ (F0 m 0 ls [])) s.heap [] hP hD hS
  clear hP hD hS
  have B12 : ∀ (n : Nat) (v2 : Int32) (x_iP1 : Int32) (x_iP4 : Int32) (x_aP0 : Nat → Int32) (x_aP3 : Nat → Int32) (H : Heap) (locs : List Loc) (ls : Array Slot), f_P_printConcept_12 N (iB 3) (iB 5) (lB 2) (lB 4) (iC 4) (aC 0) (aC 1) (aC 2) (iP 1) (iP 4) (aP 0) (aP 3) n v2 x_iP1 x_iP4 x_aP0 x_aP3 = some q → va_P (dC, dI) vwCl (zzP ad cy (ad 3) (us iP [(1, x_iP1), (4, x_iP4)]) (us aP [(0, x_aP0), (3, x_aP3)]) iB lB aB iC aC) H → va_D A (zzP ad cy (ad 3) (us iP [(1, x_iP1), (4, x_iP4)]) (us aP [(0, x_aP0), (3, x_aP3)]) iB lB aB iC aC) → va_S A s.heap H locs → lv_has ls 4 [(0, .ref (ad 0)), (2, .int v2)] → W p l e ({ frames := 3, cells := 0, slots := 0, locals := 72 } : Room) s m args below meth c H locs 0 0 QQ (F0 m 12 ls []) := by
    intro n
    induction n with
    | zero =>
      intro v2 x_iP1 x_iP4 x_aP0 x_aP3 H locs ls h hP hD hS hl
      rw [f_P_printConcept_12] at h
      cases h
    | succ n ih =>
      intro v2 x_iP1 x_iP4 x_aP0 x_aP3 H locs ls h hP hD hS hl
      rw [f_P_printConcept_12] at h
      refine lv_iload_n hx hb dX3_printConcept_12 rfl (lv_at hl 1 rfl) ?_
      refine lv_sipush (v := 800) hx hb dX3_printConcept_13 (by decide) ?_
      refine lv_icmp_ge (tgt := 127) hx hb dX3_printConcept_16 (by decide) (fun cz => ?_) (fun cz => ?_)
      · have h := g_t h cz
        have h' := Option.some.inj h
        rw [← hQQ]
        exact W.vret hx hb hr (fun t ht hW => ⟨⟨(), rfl, trivial, by rw [← hWQ, ← h', ht]; exact hP, va_K.moved hW.alike hK⟩, hS.F ht⟩) hS.2.2 dX3_printConcept_127
      · have h := g_f h cz
        refine lv_aload_n hx hb dX3_printConcept_19 rfl (lv_at hl 0 rfl) ?_
        refine va_get (D := (dC, dI)) (ci := 3) (v := .int x_iP4) (C := RX3) (T := TX3) (N := 5) hx hb hts ki3 hown hK hP 0 rfl rfl 4 (by decide) kf79 (fun _ h9 => h9) rfl dX3_printConcept_20 ?_
        refine lv_if_le (tgt := 127) hx hb dX3_printConcept_23 (by decide) (fun cz => ?_) (fun cz => ?_)
        · have h := g_t h cz
          have h' := Option.some.inj h
          rw [← hQQ]
          exact W.vret hx hb hr (fun t ht hW => ⟨⟨(), rfl, trivial, by rw [← hWQ, ← h', ht]; exact hP, va_K.moved hW.alike hK⟩, hS.F ht⟩) hS.2.2 dX3_printConcept_127
        · have h := g_f h cz
          refine lv_aload_n hx hb dX3_printConcept_26 rfl (lv_at hl 0 rfl) ?_
          refine lv_dup hx hb dX3_printConcept_27 rfl ?_
          refine va_get (D := (dC, dI)) (ci := 3) (v := .int x_iP4) (C := RX3) (T := TX3) (N := 5) hx hb hts ki3 hown hK hP 0 rfl rfl 4 (by decide) kf79 (fun _ h9 => h9) rfl dX3_printConcept_28 ?_
          refine lv_iconst (v := 1) hx hb dX3_printConcept_31 (by decide) ?_
          refine lv_isub hx hb dX3_printConcept_32 ?_
          refine va_put (D := (dC, dI)) (ci := 3) (v := .int ((x_iP4 - (1 : Int32)))) (ty := .int) (C := RX3) (T := TX3) (N := 5) hx hb hts ki3 tyX3 tyX3_ok nmX3 hown hK hP hD hS 0 rfl rfl 4 (by decide) kf79 (fun _ h9 => h9) rfl (by decide +kernel) rfl rfl (Nat.le_of_ble_eq_true rfl) dX3_printConcept_33 (fun H locs hP hD hS => ?_)
          have hP : va_P (dC, dI) vwCl (zzP ad cy (ad 3) (us iP [(1, x_iP1), (4, (x_iP4 - (1 : Int32)))]) (us aP [(0, x_aP0), (3, x_aP3)]) iB lB aB iC aC) H := Eq.mp (congrArg (fun w => va_P (dC, dI) vwCl w H) (stP_iP4 ad cy (ad 3) iP (us aP [(0, x_aP0), (3, x_aP3)]) iB lB aB iC aC [(1, x_iP1), (4, x_iP4)] ((x_iP4 - (1 : Int32))))) hP
          have hD : va_D A (zzP ad cy (ad 3) (us iP [(1, x_iP1), (4, (x_iP4 - (1 : Int32)))]) (us aP [(0, x_aP0), (3, x_aP3)]) iB lB aB iC aC) := Eq.mp (congrArg (fun w => va_D A w) (stP_iP4 ad cy (ad 3) iP (us aP [(0, x_aP0), (3, x_aP3)]) iB lB aB iC aC [(1, x_iP1), (4, x_iP4)] ((x_iP4 - (1 : Int32))))) hD
          refine lv_aload_n hx hb dX3_printConcept_36 rfl (lv_at hl 0 rfl) ?_
          refine va_get (D := (dC, dI)) (ci := 3) (v := .ref (ad 2)) (C := RX3) (T := TX3) (N := 5) hx hb hts ki3 hown hK hP 0 rfl rfl 3 (by decide) kf15 (fun _ h9 => h9) rfl dX3_printConcept_37 ?_
          refine lv_aload_n hx hb dX3_printConcept_40 rfl (lv_at hl 0 rfl) ?_
          refine va_get (D := (dC, dI)) (ci := 3) (v := .int ((x_iP4 - (1 : Int32)))) (C := RX3) (T := TX3) (N := 5) hx hb hts ki3 hown hK hP 0 rfl rfl 4 (by decide) kf79 (fun _ h9 => h9) rfl dX3_printConcept_41 ?_
          obtain ⟨g_45, h⟩ := g_n h
          refine va_iald (f := x_aP3) hx hb hK hP 2 0 rfl rfl g_45 dX3_printConcept_44 ?_
          refine lv_istore_n (lv' := [(3, .int ((x_aP3 ((x_iP4 - (1 : Int32))).toNatClampNeg))), (0, .ref (ad 0)), (2, .int v2)]) hx hb dX3_printConcept_45 rfl hl (by decide) rfl (fun ls hl => ?_)
          refine lv_iload_n hx hb dX3_printConcept_46 rfl (lv_at hl 0 rfl) ?_
          rcases Decidable.em ((x_aP3 ((x_iP4 - (1 : Int32))).toNatClampNeg) = (-4 : Int32)) with c0 | c0
          · have h := g_t h c0
            refine lv_tableIn (off := 59) (tgt := 106) hx hb dX3_printConcept_47 (by rw [c0]; decide) (by rw [c0]; decide) (by rw [c0]; rfl) (by decide) ?_
            refine lv_aload_n hx hb dX3_printConcept_106 rfl (lv_at hl 1 rfl) ?_
            refine lv_ldc2 (v := 28530) hx hb hown kc94 dX3_printConcept_107 ?_
            obtain ⟨q110, e110, h⟩ := g_b h
            refine callVvs (cc := cX3_printConcept) (w1 := zzP ad cy (ad 3) (us iP [(1, q110.1), (4, (x_iP4 - (1 : Int32)))]) (us aP [(0, q110.2), (3, x_aP3)]) iB lB aB iC aC) (As := [.long ((28530 : Int64))]) (rest := []) ⟨hx, hb, hml, hown, hts⟩ (c_P_putJoint l dC dI cy ad H.size N ((28530 : Int64)) ((us iP [(1, x_iP1), (4, (x_iP4 - (1 : Int32)))])) ((us aP [(0, x_aP0), (3, x_aP3)])) iB lB aB iC aC q110 e110) (cwV 1 hts (goodV m_ml_X3_91 m_im_X3_putJoint m_se_X3_putJoint m_in_X3 m_cd_X3_putJoint) rfl rfl rfl (by decide +kernel) ⟨Nat.le_of_ble_eq_true rfl, Nat.le_of_ble_eq_true rfl⟩) hN hK hP hD hS hA rfl 0 rfl rfl rfl hl.1 rfl (Nat.le_of_ble_eq_true rfl) dX3_printConcept_110 ⟨Nat.zero_le _, Nat.zero_le _⟩ (fun H locs hP hD hS => ?_)
            refine lv_goto (tgt := 121) hx hb dX3_printConcept_113 (by decide) ?_
            refine lv_iinc (v := (v2 + (1 : Int32))) (lv' := [(2, .int ((v2 + (1 : Int32)))), (3, .int ((x_aP3 ((x_iP4 - (1 : Int32))).toNatClampNeg))), (0, .ref (ad 0))]) hx hb dX3_printConcept_121 hl (k := 2) rfl rfl (by decide) rfl (fun ls hl => ?_)
            refine lv_goto (tgt := 12) hx hb dX3_printConcept_124 (by decide) ?_
            exact ih ((v2 + (1 : Int32))) q110.1 ((x_iP4 - (1 : Int32))) q110.2 x_aP3 H locs ls h hP hD hS (lv_sub hl [2, 0] rfl)
          · have h := g_f h c0
            rcases Decidable.em ((x_aP3 ((x_iP4 - (1 : Int32))).toNatClampNeg) = (-3 : Int32)) with c1 | c1
            · have h := g_t h c1
              refine lv_tableIn (off := 49) (tgt := 96) hx hb dX3_printConcept_47 (by rw [c1]; decide) (by rw [c1]; decide) (by rw [c1]; rfl) (by decide) ?_
              refine lv_aload_n hx hb dX3_printConcept_96 rfl (lv_at hl 1 rfl) ?_
              refine lv_ldc2 (v := 6385252) hx hb hown kc89 dX3_printConcept_97 ?_
              obtain ⟨q100, e100, h⟩ := g_b h
              refine callVvs (cc := cX3_printConcept) (w1 := zzP ad cy (ad 3) (us iP [(1, q100.1), (4, (x_iP4 - (1 : Int32)))]) (us aP [(0, q100.2), (3, x_aP3)]) iB lB aB iC aC) (As := [.long ((6385252 : Int64))]) (rest := []) ⟨hx, hb, hml, hown, hts⟩ (c_P_putJoint l dC dI cy ad H.size N ((6385252 : Int64)) ((us iP [(1, x_iP1), (4, (x_iP4 - (1 : Int32)))])) ((us aP [(0, x_aP0), (3, x_aP3)])) iB lB aB iC aC q100 e100) (cwV 1 hts (goodV m_ml_X3_91 m_im_X3_putJoint m_se_X3_putJoint m_in_X3 m_cd_X3_putJoint) rfl rfl rfl (by decide +kernel) ⟨Nat.le_of_ble_eq_true rfl, Nat.le_of_ble_eq_true rfl⟩) hN hK hP hD hS hA rfl 0 rfl rfl rfl hl.1 rfl (Nat.le_of_ble_eq_true rfl) dX3_printConcept_100 ⟨Nat.zero_le _, Nat.zero_le _⟩ (fun H locs hP hD hS => ?_)
              refine lv_goto (tgt := 121) hx hb dX3_printConcept_103 (by decide) ?_
              refine lv_iinc (v := (v2 + (1 : Int32))) (lv' := [(2, .int ((v2 + (1 : Int32)))), (3, .int ((x_aP3 ((x_iP4 - (1 : Int32))).toNatClampNeg))), (0, .ref (ad 0))]) hx hb dX3_printConcept_121 hl (k := 2) rfl rfl (by decide) rfl (fun ls hl => ?_)
              refine lv_goto (tgt := 12) hx hb dX3_printConcept_124 (by decide) ?_
              exact ih ((v2 + (1 : Int32))) q100.1 ((x_iP4 - (1 : Int32))) q100.2 x_aP3 H locs ls h hP hD hS (lv_sub hl [2, 0] rfl)
            · have h := g_f h c1
              rcases Decidable.em ((x_aP3 ((x_iP4 - (1 : Int32))).toNatClampNeg) = (-2 : Int32)) with c2 | c2
              · have h := g_t h c2
                refine lv_tableIn (off := 39) (tgt := 86) hx hb dX3_printConcept_47 (by rw [c2]; decide) (by rw [c2]; decide) (by rw [c2]; rfl) (by decide) ?_
                refine lv_aload_n hx hb dX3_printConcept_86 rfl (lv_at hl 1 rfl) ?_
                refine lv_ldc2 (v := 41) hx hb hown kc87 dX3_printConcept_87 ?_
                obtain ⟨q90, e90, h⟩ := g_b h
                refine callVvs (cc := cX3_printConcept) (w1 := zzP ad cy (ad 3) (us iP [(1, q90.1), (4, (x_iP4 - (1 : Int32)))]) (us aP [(0, q90.2), (3, x_aP3)]) iB lB aB iC aC) (As := [.long ((41 : Int64))]) (rest := []) ⟨hx, hb, hml, hown, hts⟩ (c_P_putWord l dC dI cy ad H.size N ((41 : Int64)) ((us iP [(1, x_iP1), (4, (x_iP4 - (1 : Int32)))])) ((us aP [(0, x_aP0), (3, x_aP3)])) iB lB aB iC aC q90 e90) (cwV 1 hts (goodV m_ml_X3_42 m_im_X3_putWord m_se_X3_putWord m_in_X3 m_cd_X3_putWord) rfl rfl rfl (by decide +kernel) ⟨Nat.le_of_ble_eq_true rfl, Nat.le_of_ble_eq_true rfl⟩) hN hK hP hD hS hA rfl 0 rfl rfl rfl hl.1 rfl (Nat.le_of_ble_eq_true rfl) dX3_printConcept_90 ⟨Nat.zero_le _, Nat.zero_le _⟩ (fun H locs hP hD hS => ?_)
                refine lv_goto (tgt := 121) hx hb dX3_printConcept_93 (by decide) ?_
                refine lv_iinc (v := (v2 + (1 : Int32))) (lv' := [(2, .int ((v2 + (1 : Int32)))), (3, .int ((x_aP3 ((x_iP4 - (1 : Int32))).toNatClampNeg))), (0, .ref (ad 0))]) hx hb dX3_printConcept_121 hl (k := 2) rfl rfl (by decide) rfl (fun ls hl => ?_)
                refine lv_goto (tgt := 12) hx hb dX3_printConcept_124 (by decide) ?_
                exact ih ((v2 + (1 : Int32))) q90.1 ((x_iP4 - (1 : Int32))) q90.2 x_aP3 H locs ls h hP hD hS (lv_sub hl [2, 0] rfl)
              · have h := g_f h c2
                rcases Decidable.em ((x_aP3 ((x_iP4 - (1 : Int32))).toNatClampNeg) = (-1 : Int32)) with c3 | c3
                · have h := g_t h c3
                  refine lv_tableIn (off := 29) (tgt := 76) hx hb dX3_printConcept_47 (by rw [c3]; decide) (by rw [c3]; decide) (by rw [c3]; rfl) (by decide) ?_
                  refine lv_aload_n hx hb dX3_printConcept_76 rfl (lv_at hl 1 rfl) ?_
                  refine lv_ldc2 (v := 40) hx hb hown kc85 dX3_printConcept_77 ?_
                  obtain ⟨q80, e80, h⟩ := g_b h
                  refine callVvs (cc := cX3_printConcept) (w1 := zzP ad cy (ad 3) (us iP [(1, q80.1), (4, (x_iP4 - (1 : Int32)))]) (us aP [(0, q80.2), (3, x_aP3)]) iB lB aB iC aC) (As := [.long ((40 : Int64))]) (rest := []) ⟨hx, hb, hml, hown, hts⟩ (c_P_putWord l dC dI cy ad H.size N ((40 : Int64)) ((us iP [(1, x_iP1), (4, (x_iP4 - (1 : Int32)))])) ((us aP [(0, x_aP0), (3, x_aP3)])) iB lB aB iC aC q80 e80) (cwV 1 hts (goodV m_ml_X3_42 m_im_X3_putWord m_se_X3_putWord m_in_X3 m_cd_X3_putWord) rfl rfl rfl (by decide +kernel) ⟨Nat.le_of_ble_eq_true rfl, Nat.le_of_ble_eq_true rfl⟩) hN hK hP hD hS hA rfl 0 rfl rfl rfl hl.1 rfl (Nat.le_of_ble_eq_true rfl) dX3_printConcept_80 ⟨Nat.zero_le _, Nat.zero_le _⟩ (fun H locs hP hD hS => ?_)
                  refine lv_goto (tgt := 121) hx hb dX3_printConcept_83 (by decide) ?_
                  refine lv_iinc (v := (v2 + (1 : Int32))) (lv' := [(2, .int ((v2 + (1 : Int32)))), (3, .int ((x_aP3 ((x_iP4 - (1 : Int32))).toNatClampNeg))), (0, .ref (ad 0))]) hx hb dX3_printConcept_121 hl (k := 2) rfl rfl (by decide) rfl (fun ls hl => ?_)
                  refine lv_goto (tgt := 12) hx hb dX3_printConcept_124 (by decide) ?_
                  exact ih ((v2 + (1 : Int32))) q80.1 ((x_iP4 - (1 : Int32))) q80.2 x_aP3 H locs ls h hP hD hS (lv_sub hl [2, 0] rfl)
                · have h := g_f h c3
                  refine lv_tableOut (tgt := 116) hx hb dX3_printConcept_47 (by have z0 := tne (n := -4) (by decide) c0; have z1 := tne (n := -3) (by decide) c1; have z2 := tne (n := -2) (by decide) c2; have z3 := tne (n := -1) (by decide) c3; omega) (by decide) ?_
                  refine lv_aload_n hx hb dX3_printConcept_116 rfl (lv_at hl 1 rfl) ?_
                  refine lv_iload_n hx hb dX3_printConcept_117 rfl (lv_at hl 0 rfl) ?_
                  obtain ⟨q118, e118, h⟩ := g_b h
                  refine callVvs (cc := cX3_printConcept) (w1 := zzP ad cy (ad 3) (us iP [(1, q118.1), (4, q118.2.1)]) (us aP [(0, q118.2.2.1), (3, q118.2.2.2)]) iB lB aB iC aC) (As := [.int ((x_aP3 ((x_iP4 - (1 : Int32))).toNatClampNeg))]) (rest := []) ⟨hx, hb, hml, hown, hts⟩ (c_P_printNode l dC dI cy ad H.size N ((x_aP3 ((x_iP4 - (1 : Int32))).toNatClampNeg)) ((us iP [(1, x_iP1), (4, (x_iP4 - (1 : Int32)))])) ((us aP [(0, x_aP0), (3, x_aP3)])) iB lB aB iC aC q118 e118) (cwV 1 hts (goodV m_ml_X3_96 m_im_X3_printNode m_se_X3_printNode m_in_X3 m_cd_X3_printNode) rfl rfl rfl (by decide +kernel) ⟨Nat.le_of_ble_eq_true rfl, Nat.le_of_ble_eq_true rfl⟩) hN hK hP hD hS hA rfl 0 rfl rfl rfl hl.1 rfl (Nat.le_of_ble_eq_true rfl) dX3_printConcept_118 ⟨Nat.zero_le _, Nat.zero_le _⟩ (fun H locs hP hD hS => ?_)
                  refine lv_iinc (v := (v2 + (1 : Int32))) (lv' := [(2, .int ((v2 + (1 : Int32)))), (3, .int ((x_aP3 ((x_iP4 - (1 : Int32))).toNatClampNeg))), (0, .ref (ad 0))]) hx hb dX3_printConcept_121 hl (k := 2) rfl rfl (by decide) rfl (fun ls hl => ?_)
                  refine lv_goto (tgt := 12) hx hb dX3_printConcept_124 (by decide) ?_
                  exact ih ((v2 + (1 : Int32))) q118.1 q118.2.1 q118.2.2.1 q118.2.2.2 H locs ls h hP hD hS (lv_sub hl [2, 0] rfl)
  intro H locs hP hD hS
  unfold f_P_printConcept at h
  refine lv_aload_n hx hb dX3_printConcept_0 rfl (lv_at hl 0 rfl) ?_
  refine lv_iconst (v := 0) hx hb dX3_printConcept_1 (by decide) ?_
  refine va_put (D := (dC, dI)) (ci := 3) (v := .int ((0 : Int32))) (ty := .int) (C := RX3) (T := TX3) (N := 5) hx hb hts ki3 tyX3 tyX3_ok nmX3 hown hK hP hD hS 0 rfl rfl 4 (by decide) kf79 (fun _ h9 => h9) rfl (by decide +kernel) rfl rfl (Nat.le_of_ble_eq_true rfl) dX3_printConcept_2 (fun H locs hP hD hS => ?_)
  have hP : va_P (dC, dI) vwCl (zzP ad cy (ad 3) (us iP [(4, (0 : Int32))]) aP iB lB aB iC aC) H := Eq.mp (congrArg (fun w => va_P (dC, dI) vwCl w H) (sfP_iP4 ad cy (ad 3) iP aP iB lB aB iC aC ((0 : Int32)))) hP
  have hD : va_D A (zzP ad cy (ad 3) (us iP [(4, (0 : Int32))]) aP iB lB aB iC aC) := Eq.mp (congrArg (fun w => va_D A w) (sfP_iP4 ad cy (ad 3) iP aP iB lB aB iC aC ((0 : Int32)))) hD
  refine lv_aload_n hx hb dX3_printConcept_5 rfl (lv_at hl 0 rfl) ?_
  refine lv_iload_n hx hb dX3_printConcept_6 rfl (lv_at hl 1 rfl) ?_
  obtain ⟨q7, e7, h⟩ := g_b h
  refine callVvs (cc := cX3_printConcept) (w1 := zzP ad cy (ad 3) (us iP [(4, q7.1)]) (us aP [(3, q7.2)]) iB lB aB iC aC) (As := [.int a1]) (rest := []) ⟨hx, hb, hml, hown, hts⟩ (c_P_await l dC dI cy ad H.size a1 ((us iP [(4, (0 : Int32))])) aP iB lB aB iC aC q7 e7) (cwV 1 hts (goodV m_ml_X3_82 m_im_X3_await m_se_X3_await m_in_X3 m_cd_X3_await) rfl rfl rfl (by decide +kernel) ⟨Nat.le_of_ble_eq_true rfl, Nat.le_of_ble_eq_true rfl⟩) hN hK hP hD hS hA rfl 0 rfl rfl rfl hl.1 rfl (Nat.le_of_ble_eq_true rfl) dX3_printConcept_7 ⟨Nat.zero_le _, Nat.zero_le _⟩ (fun H locs hP hD hS => ?_)
  refine lv_iconst (v := 0) hx hb dX3_printConcept_10 (by decide) ?_
  refine lv_istore_n (lv' := [(2, .int ((0 : Int32))), (0, .ref (ad 0)), (1, .int a1)]) hx hb dX3_printConcept_11 rfl hl (by decide) rfl (fun ls hl => ?_)
  exact B12 N ((0 : Int32)) (iP 1) q7.1 (aP 0) q7.2 H locs ls h hP hD hS (lv_sub hl [1, 0] rfl)
set_option maxHeartbeats 8000000 in
set_option maxRecDepth 100000 in
theorem c_P_printStatement (l : Launch) (dC : Nat → ClassId) (dI : Nat → Nat → Nat) (cy : Nat → ClassId) (ad : Nat → Nat) (sz : Nat) (N : Nat) (a1 : Int32) (iP : Nat → Int32) (aP : Nat → Nat → Int32) (iB : Nat → Int32) (lB : Nat → Nat → Int64) (aB : Nat → Nat → Int32) (iC : Nat → Int32) (aC : Nat → Nat → Int32) (q : Int32 × Int32 × (Nat → Int32) × (Nat → Int32)) (h : f_P_printStatement N a1 (iB 3) (iB 5) (lB 2) (lB 4) (iC 4) (aC 0) (aC 1) (aC 2) (iP 1) (iP 4) (aP 0) (aP 3) = some q) : Met l yX3_printStatement wsX3_printStatement ({ frames := 4, cells := 0, slots := 0, locals := 95 } : Room) (cP (dC, dI) cy [.ref (ad 0), .int a1] (zzP ad cy (ad 3) iP aP iB lB aB iC aC) sz) (cQv (dC, dI) cy (zzP ad cy (ad 3) (us iP [(1, q.1), (4, q.2.1)]) (us aP [(0, q.2.2.1), (3, q.2.2.2)]) iB lB aB iC aC) (va_A (zzP ad cy (ad 3) iP aP iB lB aB iC aC) sz)) 0 0 (va_A (zzP ad cy (ad 3) iP aP iB lB aB iC aC) sz) := by
  refine Met.ofW (cc := cX3_printStatement) (maxL := 5) (ret := none) (by decide) rfl ?_
  intro p e s m args below meth c s₁ B hml hv
  obtain ⟨hav, hsz, hP, hK, hD0, hN⟩ := hv
  have hx := B.exec
  have hb := B.bytes
  have hr := B.returns
  have hts := atoms_spec (ws := wsX3_printStatement) B.pre
  have hown : s.vm.findClass RX3 = some m.cls := findClass_of_methodNamed B.named
  have hlocks := B.notSynchronized
  subst hsz
  have hD := hD0.self (sz := s.heap.size)
  generalize hAe : va_A (zzP ad cy (ad 3) iP aP iB lB aB iC aC) s.heap.size = A at hD ⊢
  have hA : ∀ q : Nat, s.heap.size ≤ q → A q := fun q h => by rw [← hAe]; exact Or.inr h
  have hS : va_S A s.heap s.heap [] := va_S.rf
  generalize hWQ : (zzP ad cy (ad 3) (us iP [(1, q.1), (4, q.2.1)]) (us aP [(0, q.2.2.1), (3, q.2.2.2)]) iB lB aB iC aC) = WQ
  generalize hQQ : MQ below (cQv (dC, dI) cy WQ A) args s 0 0 A = QQ
  have hl := lv_entry ([.ref (ad 0), .int a1] : List Value) (n := 5) (Nat.le_of_ble_eq_true rfl)
  have hfr := lg_entry_eq m ([.ref (ad 0), .int a1] : List Value) 5
  rw [← hav] at hfr
  rw [hfr]
  clear hfr hav
  generalize (lg_sl ([.ref (ad 0), .int a1] : List Value) ++ List.replicate (5 - (lg_sl ([.ref (ad 0), .int a1] : List Value)).length) Slot.unset).toArray = ls at hl ⊢
  have hl : lv_has ls 5 [(0, .ref (ad 0)), (1, .int a1)] := hl
  have kc60 := hts _ (List.mem_cons_of_mem _ m_kl_X3_60)
  have kc64 := hts _ (List.mem_cons_of_mem _ m_kl_X3_64)
  have kc62 := hts _ (List.mem_cons_of_mem _ m_kl_X3_62)
  have kc69 := hts _ (List.mem_cons_of_mem _ m_kl_X3_69)
  have kc71 := hts _ (List.mem_cons_of_mem _ m_kl_X3_71)
  have kf19 := hts _ (List.mem_cons_of_mem _ m_fl_X3_19)
  have ki3 := (fun w h => List.mem_cons_of_mem _ (i_X3 w h) : ∀ w ∈ u_ws RX3 TX3 5, w ∈ wsX3_printStatement)
  have kc77 := hts _ (List.mem_cons_of_mem _ m_kl_X3_77)
  refine (?_ : ∀ (H : Heap) (locs : List Loc), va_P (dC, dI) vwCl (zzP ad cy (ad 3) iP aP iB lB aB iC aC) H → va_D A (zzP ad cy (ad 3) iP aP iB lB aB iC aC) → va_S A s.heap H locs → W p l e ({ frames := 4, cells := 0, slots := 0, locals := 95 } : Room) s m args below meth c H locs 0 0 QQ (F0 m 0 ls [])) s.heap [] hP hD hS
  clear hP hD hS
  have B75 : ∀ (v3 : Int32) (s1 : Int64) (x_iP1 : Int32) (x_iP4 : Int32) (x_aP0 : Nat → Int32) (x_aP3 : Nat → Int32) (H : Heap) (locs : List Loc) (ls : Array Slot), f_P_printStatement_75 N (iB 3) (iB 5) (lB 2) (lB 4) (iC 4) (aC 0) (aC 1) (aC 2) (iP 1) (iP 4) (aP 0) (aP 3) v3 s1 x_iP1 x_iP4 x_aP0 x_aP3 = some q → va_P (dC, dI) vwCl (zzP ad cy (ad 3) (us iP [(1, x_iP1), (4, x_iP4)]) (us aP [(0, x_aP0), (3, x_aP3)]) iB lB aB iC aC) H → va_D A (zzP ad cy (ad 3) (us iP [(1, x_iP1), (4, x_iP4)]) (us aP [(0, x_aP0), (3, x_aP3)]) iB lB aB iC aC) → va_S A s.heap H locs → lv_has ls 5 [(0, .ref (ad 0)), (3, .int v3)] → W p l e ({ frames := 4, cells := 0, slots := 0, locals := 95 } : Room) s m args below meth c H locs 0 0 QQ (F0 m 75 ls [.long s1, .ref (ad 0)]) := by
    intro v3 s1 x_iP1 x_iP4 x_aP0 x_aP3 H locs ls h hP hD hS hl
    unfold f_P_printStatement_75 at h
    obtain ⟨q75, e75, h⟩ := g_b h
    refine callVvs (cc := cX3_printStatement) (w1 := zzP ad cy (ad 3) (us iP [(1, q75.1), (4, x_iP4)]) (us aP [(0, q75.2), (3, x_aP3)]) iB lB aB iC aC) (As := [.long s1]) (rest := []) ⟨hx, hb, hml, hown, hts⟩ (c_P_putBehind l dC dI cy ad H.size N s1 ((us iP [(1, x_iP1), (4, x_iP4)])) ((us aP [(0, x_aP0), (3, x_aP3)])) iB lB aB iC aC q75 e75) (cwV 1 hts (goodV m_ml_X3_66 m_im_X3_putBehind m_se_X3_putBehind m_in_X3 m_cd_X3_putBehind) rfl rfl rfl (by decide +kernel) ⟨Nat.le_of_ble_eq_true rfl, Nat.le_of_ble_eq_true rfl⟩) hN hK hP hD hS hA rfl 0 rfl rfl rfl hl.1 rfl (Nat.le_of_ble_eq_true rfl) dX3_printStatement_75 ⟨Nat.zero_le _, Nat.zero_le _⟩ (fun H locs hP hD hS => ?_)
    refine lv_aload_n hx hb dX3_printStatement_78 rfl (lv_at hl 0 rfl) ?_
    refine lv_iload_n hx hb dX3_printStatement_79 rfl (lv_at hl 1 rfl) ?_
    obtain ⟨q80, e80, h⟩ := g_b h
    refine callVvs (cc := cX3_printStatement) (w1 := zzP ad cy (ad 3) (us iP [(1, q80.1), (4, q80.2.1)]) (us aP [(0, q80.2.2.1), (3, q80.2.2.2)]) iB lB aB iC aC) (As := [.int v3]) (rest := []) ⟨hx, hb, hml, hown, hts⟩ (c_P_printConcept l dC dI cy ad H.size N v3 ((us iP [(1, q75.1), (4, x_iP4)])) ((us aP [(0, q75.2), (3, x_aP3)])) iB lB aB iC aC q80 e80) (cwV 1 hts (goodV m_ml_X3_57 m_im_X3_printConcept m_se_X3_printConcept m_in_X3 m_cd_X3_printConcept) rfl rfl rfl (by decide +kernel) ⟨Nat.le_of_ble_eq_true rfl, Nat.le_of_ble_eq_true rfl⟩) hN hK hP hD hS hA rfl 0 rfl rfl rfl hl.1 rfl (Nat.le_of_ble_eq_true rfl) dX3_printStatement_80 ⟨Nat.zero_le _, Nat.zero_le _⟩ (fun H locs hP hD hS => ?_)
    refine lv_goto (tgt := 154) hx hb dX3_printStatement_83 (by decide) ?_
    have h' := Option.some.inj h
    rw [← hQQ]
    exact W.vret hx hb hr (fun t ht hW => ⟨⟨(), rfl, trivial, by rw [← hWQ, ← h', ht]; exact hP, va_K.moved hW.alike hK⟩, hS.F ht⟩) hS.2.2 dX3_printStatement_154
  intro H locs hP hD hS
  unfold f_P_printStatement at h
  refine lv_iload_n hx hb dX3_printStatement_0 rfl (lv_at hl 1 rfl) ?_
  obtain ⟨q1, e1, h⟩ := g_b h
  refine callSi (cc := cX3_printStatement) (ws' := zzP ad cy (ad 3) iP aP iB lB aB iC aC) (As := [.int a1]) (rest := []) ⟨hx, hb, hml, hown, hts⟩ (c_B_leftOf l dC dI cy ad H.size a1 q1 e1) (va_cwS 1 hts (goodS m_ml_X3_48 m_st_X0_leftOf m_in_X0 m_cd_X0_leftOf) rfl rfl rfl (by decide +kernel) ⟨Nat.le_of_ble_eq_true rfl, Nat.le_of_ble_eq_true rfl⟩) hN hK hP hD hS hA [] [none, none, none, none, none, none, none, none, none, none, none, none, none, none, none, none, none, none, none] rfl rfl rfl rfl rfl rfl rfl hl.1 rfl (Nat.le_of_ble_eq_true rfl) dX3_printStatement_1 ⟨Nat.zero_le _, Nat.zero_le _⟩ (fun H locs hP hD hS => ?_)
  refine lv_istore_n (lv' := [(2, .int q1), (0, .ref (ad 0)), (1, .int a1)]) hx hb dX3_printStatement_4 rfl hl (by decide) rfl (fun ls hl => ?_)
  refine lv_iload_n hx hb dX3_printStatement_5 rfl (lv_at hl 2 rfl) ?_
  obtain ⟨q6, e6, h⟩ := g_b h
  refine callSi (cc := cX3_printStatement) (ws' := zzP ad cy (ad 3) iP aP iB lB aB iC aC) (As := [.int a1]) (rest := []) ⟨hx, hb, hml, hown, hts⟩ (c_B_rightOf l dC dI cy ad H.size a1 q6 e6) (va_cwS 1 hts (goodS m_ml_X3_51 m_st_X0_rightOf m_in_X0 m_cd_X0_rightOf) rfl rfl rfl (by decide +kernel) ⟨Nat.le_of_ble_eq_true rfl, Nat.le_of_ble_eq_true rfl⟩) hN hK hP hD hS hA [] [none, none, none, none, none, none, none, none, none, none, none, none, none, none, none, none, none, none, none] rfl rfl rfl rfl rfl rfl rfl hl.1 rfl (Nat.le_of_ble_eq_true rfl) dX3_printStatement_6 ⟨Nat.zero_le _, Nat.zero_le _⟩ (fun H locs hP hD hS => ?_)
  refine lv_istore_n (lv' := [(3, .int q6), (2, .int q1), (0, .ref (ad 0)), (1, .int a1)]) hx hb dX3_printStatement_9 rfl hl (by decide) rfl (fun ls hl => ?_)
  refine lv_iload_n hx hb dX3_printStatement_10 rfl (lv_at hl 3 rfl) ?_
  obtain ⟨q11, e11, h⟩ := g_b h
  refine callSi (cc := cX3_printStatement) (ws' := zzP ad cy (ad 3) iP aP iB lB aB iC aC) (As := [.int a1]) (rest := []) ⟨hx, hb, hml, hown, hts⟩ (c_B_sortOf l dC dI cy ad H.size a1 q11 e11) (va_cwS 1 hts (goodS m_ml_X3_54 m_st_X0_sortOf m_in_X0 m_cd_X0_sortOf) rfl rfl rfl (by decide +kernel) ⟨Nat.le_of_ble_eq_true rfl, Nat.le_of_ble_eq_true rfl⟩) hN hK hP hD hS hA [] [none, none, none, none, none, none, none, none, none, none, none, none, none, none, none, none, none, none, none] rfl rfl rfl rfl rfl rfl rfl hl.1 rfl (Nat.le_of_ble_eq_true rfl) dX3_printStatement_11 ⟨Nat.zero_le _, Nat.zero_le _⟩ (fun H locs hP hD hS => ?_)
  refine lv_istore (lv' := [(4, .int q11), (3, .int q6), (2, .int q1), (0, .ref (ad 0)), (1, .int a1)]) hx hb dX3_printStatement_14 hl (by decide) rfl (fun ls hl => ?_)
  refine lv_iload hx hb dX3_printStatement_16 (lv_at hl 0 rfl) ?_
  rcases Decidable.em (q11 = (0 : Int32)) with c0 | c0
  · have h := g_t h c0
    refine lv_tableIn (off := 30) (tgt := 48) hx hb dX3_printStatement_18 (by rw [c0]; decide) (by rw [c0]; decide) (by rw [c0]; rfl) (by decide) ?_
    refine lv_aload_n hx hb dX3_printStatement_48 rfl (lv_at hl 3 rfl) ?_
    refine lv_iload_n hx hb dX3_printStatement_49 rfl (lv_at hl 2 rfl) ?_
    obtain ⟨q50, e50, h⟩ := g_b h
    refine callVvs (cc := cX3_printStatement) (w1 := zzP ad cy (ad 3) (us iP [(1, q50.1), (4, q50.2.1)]) (us aP [(0, q50.2.2.1), (3, q50.2.2.2)]) iB lB aB iC aC) (As := [.int q1]) (rest := []) ⟨hx, hb, hml, hown, hts⟩ (c_P_printConcept l dC dI cy ad H.size N q1 iP aP iB lB aB iC aC q50 e50) (cwV 1 hts (goodV m_ml_X3_57 m_im_X3_printConcept m_se_X3_printConcept m_in_X3 m_cd_X3_printConcept) rfl rfl rfl (by decide +kernel) ⟨Nat.le_of_ble_eq_true rfl, Nat.le_of_ble_eq_true rfl⟩) hN hK hP hD hS hA rfl 0 rfl rfl rfl hl.1 rfl (Nat.le_of_ble_eq_true rfl) dX3_printStatement_50 ⟨Nat.zero_le _, Nat.zero_le _⟩ (fun H locs hP hD hS => ?_)
    refine lv_aload_n hx hb dX3_printStatement_53 rfl (lv_at hl 3 rfl) ?_
    refine lv_ldc2 (v := 32) hx hb hown kc60 dX3_printStatement_54 ?_
    obtain ⟨q57, e57, h⟩ := g_b h
    refine callVvs (cc := cX3_printStatement) (w1 := zzP ad cy (ad 3) (us iP [(1, q57.1), (4, q50.2.1)]) (us aP [(0, q57.2), (3, q50.2.2.2)]) iB lB aB iC aC) (As := [.long ((32 : Int64))]) (rest := []) ⟨hx, hb, hml, hown, hts⟩ (c_P_putWord l dC dI cy ad H.size N ((32 : Int64)) ((us iP [(1, q50.1), (4, q50.2.1)])) ((us aP [(0, q50.2.2.1), (3, q50.2.2.2)])) iB lB aB iC aC q57 e57) (cwV 1 hts (goodV m_ml_X3_42 m_im_X3_putWord m_se_X3_putWord m_in_X3 m_cd_X3_putWord) rfl rfl rfl (by decide +kernel) ⟨Nat.le_of_ble_eq_true rfl, Nat.le_of_ble_eq_true rfl⟩) hN hK hP hD hS hA rfl 0 rfl rfl rfl hl.1 rfl (Nat.le_of_ble_eq_true rfl) dX3_printStatement_57 ⟨Nat.zero_le _, Nat.zero_le _⟩ (fun H locs hP hD hS => ?_)
    refine lv_aload_n hx hb dX3_printStatement_60 rfl (lv_at hl 3 rfl) ?_
    refine lv_iload hx hb dX3_printStatement_61 (lv_at hl 0 rfl) ?_
    refine lv_if_ne (tgt := 72) hx hb dX3_printStatement_63 (by decide) (fun cz => ?_) (fun cz => ?_)
    · have h := g_f h cz
      refine lv_ldc2 (v := 61) hx hb hown kc64 dX3_printStatement_72 ?_
      exact B75 q6 ((61 : Int64)) q57.1 q50.2.1 q57.2 q50.2.2.2 H locs ls h hP hD hS (lv_sub hl [3, 1] rfl)
    · have h := g_t h cz
      refine lv_ldc2 (v := 60) hx hb hown kc62 dX3_printStatement_66 ?_
      refine lv_goto (tgt := 75) hx hb dX3_printStatement_69 (by decide) ?_
      exact B75 q6 ((60 : Int64)) q57.1 q50.2.1 q57.2 q50.2.2.2 H locs ls h hP hD hS (lv_sub hl [3, 1] rfl)
  · have h := g_f h c0
    rcases Decidable.em (q11 = (1 : Int32)) with c1 | c1
    · have h := g_t h c1
      refine lv_tableIn (off := 30) (tgt := 48) hx hb dX3_printStatement_18 (by rw [c1]; decide) (by rw [c1]; decide) (by rw [c1]; rfl) (by decide) ?_
      refine lv_aload_n hx hb dX3_printStatement_48 rfl (lv_at hl 3 rfl) ?_
      refine lv_iload_n hx hb dX3_printStatement_49 rfl (lv_at hl 2 rfl) ?_
      obtain ⟨q50, e50, h⟩ := g_b h
      refine callVvs (cc := cX3_printStatement) (w1 := zzP ad cy (ad 3) (us iP [(1, q50.1), (4, q50.2.1)]) (us aP [(0, q50.2.2.1), (3, q50.2.2.2)]) iB lB aB iC aC) (As := [.int q1]) (rest := []) ⟨hx, hb, hml, hown, hts⟩ (c_P_printConcept l dC dI cy ad H.size N q1 iP aP iB lB aB iC aC q50 e50) (cwV 1 hts (goodV m_ml_X3_57 m_im_X3_printConcept m_se_X3_printConcept m_in_X3 m_cd_X3_printConcept) rfl rfl rfl (by decide +kernel) ⟨Nat.le_of_ble_eq_true rfl, Nat.le_of_ble_eq_true rfl⟩) hN hK hP hD hS hA rfl 0 rfl rfl rfl hl.1 rfl (Nat.le_of_ble_eq_true rfl) dX3_printStatement_50 ⟨Nat.zero_le _, Nat.zero_le _⟩ (fun H locs hP hD hS => ?_)
      refine lv_aload_n hx hb dX3_printStatement_53 rfl (lv_at hl 3 rfl) ?_
      refine lv_ldc2 (v := 32) hx hb hown kc60 dX3_printStatement_54 ?_
      obtain ⟨q57, e57, h⟩ := g_b h
      refine callVvs (cc := cX3_printStatement) (w1 := zzP ad cy (ad 3) (us iP [(1, q57.1), (4, q50.2.1)]) (us aP [(0, q57.2), (3, q50.2.2.2)]) iB lB aB iC aC) (As := [.long ((32 : Int64))]) (rest := []) ⟨hx, hb, hml, hown, hts⟩ (c_P_putWord l dC dI cy ad H.size N ((32 : Int64)) ((us iP [(1, q50.1), (4, q50.2.1)])) ((us aP [(0, q50.2.2.1), (3, q50.2.2.2)])) iB lB aB iC aC q57 e57) (cwV 1 hts (goodV m_ml_X3_42 m_im_X3_putWord m_se_X3_putWord m_in_X3 m_cd_X3_putWord) rfl rfl rfl (by decide +kernel) ⟨Nat.le_of_ble_eq_true rfl, Nat.le_of_ble_eq_true rfl⟩) hN hK hP hD hS hA rfl 0 rfl rfl rfl hl.1 rfl (Nat.le_of_ble_eq_true rfl) dX3_printStatement_57 ⟨Nat.zero_le _, Nat.zero_le _⟩ (fun H locs hP hD hS => ?_)
      refine lv_aload_n hx hb dX3_printStatement_60 rfl (lv_at hl 3 rfl) ?_
      refine lv_iload hx hb dX3_printStatement_61 (lv_at hl 0 rfl) ?_
      refine lv_if_ne (tgt := 72) hx hb dX3_printStatement_63 (by decide) (fun cz => ?_) (fun cz => ?_)
      · have h := g_f h cz
        refine lv_ldc2 (v := 61) hx hb hown kc64 dX3_printStatement_72 ?_
        exact B75 q6 ((61 : Int64)) q57.1 q50.2.1 q57.2 q50.2.2.2 H locs ls h hP hD hS (lv_sub hl [3, 1] rfl)
      · have h := g_t h cz
        refine lv_ldc2 (v := 60) hx hb hown kc62 dX3_printStatement_66 ?_
        refine lv_goto (tgt := 75) hx hb dX3_printStatement_69 (by decide) ?_
        exact B75 q6 ((60 : Int64)) q57.1 q50.2.1 q57.2 q50.2.2.2 H locs ls h hP hD hS (lv_sub hl [3, 1] rfl)
    · have h := g_f h c1
      rcases Decidable.em (q11 = (2 : Int32)) with c2 | c2
      · have h := g_t h c2
        refine lv_tableIn (off := 68) (tgt := 86) hx hb dX3_printStatement_18 (by rw [c2]; decide) (by rw [c2]; decide) (by rw [c2]; rfl) (by decide) ?_
        refine lv_aload_n hx hb dX3_printStatement_86 rfl (lv_at hl 3 rfl) ?_
        refine lv_ldc2 (v := 6386539) hx hb hown kc69 dX3_printStatement_87 ?_
        obtain ⟨q90, e90, h⟩ := g_b h
        refine callVvs (cc := cX3_printStatement) (w1 := zzP ad cy (ad 3) (us iP [(1, q90.1)]) (us aP [(0, q90.2)]) iB lB aB iC aC) (As := [.long ((6386539 : Int64))]) (rest := []) ⟨hx, hb, hml, hown, hts⟩ (c_P_putBehind l dC dI cy ad H.size N ((6386539 : Int64)) iP aP iB lB aB iC aC q90 e90) (cwV 1 hts (goodV m_ml_X3_66 m_im_X3_putBehind m_se_X3_putBehind m_in_X3 m_cd_X3_putBehind) rfl rfl rfl (by decide +kernel) ⟨Nat.le_of_ble_eq_true rfl, Nat.le_of_ble_eq_true rfl⟩) hN hK hP hD hS hA rfl 0 rfl rfl rfl hl.1 rfl (Nat.le_of_ble_eq_true rfl) dX3_printStatement_90 ⟨Nat.zero_le _, Nat.zero_le _⟩ (fun H locs hP hD hS => ?_)
        refine lv_aload_n hx hb dX3_printStatement_93 rfl (lv_at hl 3 rfl) ?_
        refine lv_iload_n hx hb dX3_printStatement_94 rfl (lv_at hl 2 rfl) ?_
        obtain ⟨q95, e95, h⟩ := g_b h
        refine callVvs (cc := cX3_printStatement) (w1 := zzP ad cy (ad 3) (us iP [(1, q95.1), (4, q95.2.1)]) (us aP [(0, q95.2.2.1), (3, q95.2.2.2)]) iB lB aB iC aC) (As := [.int q1]) (rest := []) ⟨hx, hb, hml, hown, hts⟩ (c_P_printConcept l dC dI cy ad H.size N q1 ((us iP [(1, q90.1)])) ((us aP [(0, q90.2)])) iB lB aB iC aC q95 e95) (cwV 1 hts (goodV m_ml_X3_57 m_im_X3_printConcept m_se_X3_printConcept m_in_X3 m_cd_X3_printConcept) rfl rfl rfl (by decide +kernel) ⟨Nat.le_of_ble_eq_true rfl, Nat.le_of_ble_eq_true rfl⟩) hN hK hP hD hS hA rfl 0 rfl rfl rfl hl.1 rfl (Nat.le_of_ble_eq_true rfl) dX3_printStatement_95 ⟨Nat.zero_le _, Nat.zero_le _⟩ (fun H locs hP hD hS => ?_)
        refine lv_goto (tgt := 154) hx hb dX3_printStatement_98 (by decide) ?_
        have h' := Option.some.inj h
        rw [← hQQ]
        exact W.vret hx hb hr (fun t ht hW => ⟨⟨(), rfl, trivial, by rw [← hWQ, ← h', ht]; exact hP, va_K.moved hW.alike hK⟩, hS.F ht⟩) hS.2.2 dX3_printStatement_154
      · have h := g_f h c2
        rcases Decidable.em (q11 = (3 : Int32)) with c3 | c3
        · have h := g_t h c3
          refine lv_tableIn (off := 83) (tgt := 101) hx hb dX3_printStatement_18 (by rw [c3]; decide) (by rw [c3]; decide) (by rw [c3]; rfl) (by decide) ?_
          refine lv_aload_n hx hb dX3_printStatement_101 rfl (lv_at hl 3 rfl) ?_
          refine lv_ldc2 (v := 504363246962) hx hb hown kc71 dX3_printStatement_102 ?_
          obtain ⟨q105, e105, h⟩ := g_b h
          refine callVvs (cc := cX3_printStatement) (w1 := zzP ad cy (ad 3) (us iP [(1, q105.1)]) (us aP [(0, q105.2)]) iB lB aB iC aC) (As := [.long ((504363246962 : Int64))]) (rest := []) ⟨hx, hb, hml, hown, hts⟩ (c_P_putBehind l dC dI cy ad H.size N ((504363246962 : Int64)) iP aP iB lB aB iC aC q105 e105) (cwV 1 hts (goodV m_ml_X3_66 m_im_X3_putBehind m_se_X3_putBehind m_in_X3 m_cd_X3_putBehind) rfl rfl rfl (by decide +kernel) ⟨Nat.le_of_ble_eq_true rfl, Nat.le_of_ble_eq_true rfl⟩) hN hK hP hD hS hA rfl 0 rfl rfl rfl hl.1 rfl (Nat.le_of_ble_eq_true rfl) dX3_printStatement_105 ⟨Nat.zero_le _, Nat.zero_le _⟩ (fun H locs hP hD hS => ?_)
          refine lv_aload_n hx hb dX3_printStatement_108 rfl (lv_at hl 3 rfl) ?_
          refine lv_aload_n hx hb dX3_printStatement_109 rfl (lv_at hl 3 rfl) ?_
          refine va_get (D := (dC, dI)) (ci := 3) (v := .ref (ad 3)) (C := RX3) (T := TX3) (N := 5) hx hb hts ki3 hown hK hP 0 rfl rfl 2 (by decide) kf19 (fun _ h9 => h9) rfl dX3_printStatement_110 ?_
          refine lv_iload_n hx hb dX3_printStatement_113 rfl (lv_at hl 2 rfl) ?_
          obtain ⟨q114, e114, h⟩ := g_b h
          refine callVl (cc := cX3_printStatement) (ws' := zzP ad cy (ad 3) (us iP [(1, q105.1)]) (us aP [(0, q105.2)]) iB lB aB iC aC) (As := [.int q1]) (rest := [.ref (ad 0)]) ⟨hx, hb, hml, hown, hts⟩ (c_B_roleWord l dC dI cy (fun i => ad (i + 3)) H.size q1 iB lB aB iC aC q114 e114) (cwV 1 hts (goodV m_ml_X3_73 m_im_X0_roleWord m_se_X0_roleWord m_in_X0 m_cd_X0_roleWord) rfl rfl rfl (by decide +kernel) ⟨Nat.le_of_ble_eq_true rfl, Nat.le_of_ble_eq_true rfl⟩) hN hK hP hD hS hA [3, 4, 5, 6, 7, 8, 9, 10, 11, 12, 13, 14, 15, 16, 17, 18] [none, none, none, some 0, some 1, some 2, some 3, some 4, some 5, some 6, some 7, some 8, some 9, some 10, some 11, some 12, some 13, some 14, some 15] rfl rfl rfl rfl rfl rfl 3 rfl rfl rfl hl.1 rfl (Nat.le_of_ble_eq_true rfl) dX3_printStatement_114 ⟨Nat.zero_le _, Nat.zero_le _⟩ (fun H locs hP hD hS => ?_)
          obtain ⟨q117, e117, h⟩ := g_b h
          refine callVvs (cc := cX3_printStatement) (w1 := zzP ad cy (ad 3) (us iP [(1, q117.1)]) (us aP [(0, q117.2)]) iB lB aB iC aC) (As := [.long q114]) (rest := []) ⟨hx, hb, hml, hown, hts⟩ (c_P_putBehind l dC dI cy ad H.size N q114 ((us iP [(1, q105.1)])) ((us aP [(0, q105.2)])) iB lB aB iC aC q117 e117) (cwV 1 hts (goodV m_ml_X3_66 m_im_X3_putBehind m_se_X3_putBehind m_in_X3 m_cd_X3_putBehind) rfl rfl rfl (by decide +kernel) ⟨Nat.le_of_ble_eq_true rfl, Nat.le_of_ble_eq_true rfl⟩) hN hK hP hD hS hA rfl 0 rfl rfl rfl hl.1 rfl (Nat.le_of_ble_eq_true rfl) dX3_printStatement_117 ⟨Nat.zero_le _, Nat.zero_le _⟩ (fun H locs hP hD hS => ?_)
          refine lv_aload_n hx hb dX3_printStatement_120 rfl (lv_at hl 3 rfl) ?_
          refine lv_aload_n hx hb dX3_printStatement_121 rfl (lv_at hl 3 rfl) ?_
          refine va_get (D := (dC, dI)) (ci := 3) (v := .ref (ad 3)) (C := RX3) (T := TX3) (N := 5) hx hb hts ki3 hown hK hP 0 rfl rfl 2 (by decide) kf19 (fun _ h9 => h9) rfl dX3_printStatement_122 ?_
          refine lv_iload_n hx hb dX3_printStatement_125 rfl (lv_at hl 1 rfl) ?_
          obtain ⟨q126, e126, h⟩ := g_b h
          refine callVl (cc := cX3_printStatement) (ws' := zzP ad cy (ad 3) (us iP [(1, q117.1)]) (us aP [(0, q117.2)]) iB lB aB iC aC) (As := [.int q6]) (rest := [.ref (ad 0)]) ⟨hx, hb, hml, hown, hts⟩ (c_B_roleWord l dC dI cy (fun i => ad (i + 3)) H.size q6 iB lB aB iC aC q126 e126) (cwV 1 hts (goodV m_ml_X3_73 m_im_X0_roleWord m_se_X0_roleWord m_in_X0 m_cd_X0_roleWord) rfl rfl rfl (by decide +kernel) ⟨Nat.le_of_ble_eq_true rfl, Nat.le_of_ble_eq_true rfl⟩) hN hK hP hD hS hA [3, 4, 5, 6, 7, 8, 9, 10, 11, 12, 13, 14, 15, 16, 17, 18] [none, none, none, some 0, some 1, some 2, some 3, some 4, some 5, some 6, some 7, some 8, some 9, some 10, some 11, some 12, some 13, some 14, some 15] rfl rfl rfl rfl rfl rfl 3 rfl rfl rfl hl.1 rfl (Nat.le_of_ble_eq_true rfl) dX3_printStatement_126 ⟨Nat.zero_le _, Nat.zero_le _⟩ (fun H locs hP hD hS => ?_)
          obtain ⟨q129, e129, h⟩ := g_b h
          refine callVvs (cc := cX3_printStatement) (w1 := zzP ad cy (ad 3) (us iP [(1, q129.1)]) (us aP [(0, q129.2)]) iB lB aB iC aC) (As := [.long q126]) (rest := []) ⟨hx, hb, hml, hown, hts⟩ (c_P_putWord l dC dI cy ad H.size N q126 ((us iP [(1, q117.1)])) ((us aP [(0, q117.2)])) iB lB aB iC aC q129 e129) (cwV 1 hts (goodV m_ml_X3_42 m_im_X3_putWord m_se_X3_putWord m_in_X3 m_cd_X3_putWord) rfl rfl rfl (by decide +kernel) ⟨Nat.le_of_ble_eq_true rfl, Nat.le_of_ble_eq_true rfl⟩) hN hK hP hD hS hA rfl 0 rfl rfl rfl hl.1 rfl (Nat.le_of_ble_eq_true rfl) dX3_printStatement_129 ⟨Nat.zero_le _, Nat.zero_le _⟩ (fun H locs hP hD hS => ?_)
          refine lv_goto (tgt := 154) hx hb dX3_printStatement_132 (by decide) ?_
          have h' := Option.some.inj h
          rw [← hQQ]
          exact W.vret hx hb hr (fun t ht hW => ⟨⟨(), rfl, trivial, by rw [← hWQ, ← h', ht]; exact hP, va_K.moved hW.alike hK⟩, hS.F ht⟩) hS.2.2 dX3_printStatement_154
        · have h := g_f h c3
          refine lv_tableOut (tgt := 135) hx hb dX3_printStatement_18 (by have z0 := tne (n := 0) (by decide) c0; have z1 := tne (n := 1) (by decide) c1; have z2 := tne (n := 2) (by decide) c2; have z3 := tne (n := 3) (by decide) c3; omega) (by decide) ?_
          refine lv_aload_n hx hb dX3_printStatement_135 rfl (lv_at hl 3 rfl) ?_
          refine lv_ldc2 (v := 126896661032037) hx hb hown kc77 dX3_printStatement_136 ?_
          obtain ⟨q139, e139, h⟩ := g_b h
          refine callVvs (cc := cX3_printStatement) (w1 := zzP ad cy (ad 3) (us iP [(1, q139.1)]) (us aP [(0, q139.2)]) iB lB aB iC aC) (As := [.long ((126896661032037 : Int64))]) (rest := []) ⟨hx, hb, hml, hown, hts⟩ (c_P_putBehind l dC dI cy ad H.size N ((126896661032037 : Int64)) iP aP iB lB aB iC aC q139 e139) (cwV 1 hts (goodV m_ml_X3_66 m_im_X3_putBehind m_se_X3_putBehind m_in_X3 m_cd_X3_putBehind) rfl rfl rfl (by decide +kernel) ⟨Nat.le_of_ble_eq_true rfl, Nat.le_of_ble_eq_true rfl⟩) hN hK hP hD hS hA rfl 0 rfl rfl rfl hl.1 rfl (Nat.le_of_ble_eq_true rfl) dX3_printStatement_139 ⟨Nat.zero_le _, Nat.zero_le _⟩ (fun H locs hP hD hS => ?_)
          refine lv_aload_n hx hb dX3_printStatement_142 rfl (lv_at hl 3 rfl) ?_
          refine lv_aload_n hx hb dX3_printStatement_143 rfl (lv_at hl 3 rfl) ?_
          refine va_get (D := (dC, dI)) (ci := 3) (v := .ref (ad 3)) (C := RX3) (T := TX3) (N := 5) hx hb hts ki3 hown hK hP 0 rfl rfl 2 (by decide) kf19 (fun _ h9 => h9) rfl dX3_printStatement_144 ?_
          refine lv_iload_n hx hb dX3_printStatement_147 rfl (lv_at hl 2 rfl) ?_
          obtain ⟨q148, e148, h⟩ := g_b h
          refine callVl (cc := cX3_printStatement) (ws' := zzP ad cy (ad 3) (us iP [(1, q139.1)]) (us aP [(0, q139.2)]) iB lB aB iC aC) (As := [.int q1]) (rest := [.ref (ad 0)]) ⟨hx, hb, hml, hown, hts⟩ (c_B_roleWord l dC dI cy (fun i => ad (i + 3)) H.size q1 iB lB aB iC aC q148 e148) (cwV 1 hts (goodV m_ml_X3_73 m_im_X0_roleWord m_se_X0_roleWord m_in_X0 m_cd_X0_roleWord) rfl rfl rfl (by decide +kernel) ⟨Nat.le_of_ble_eq_true rfl, Nat.le_of_ble_eq_true rfl⟩) hN hK hP hD hS hA [3, 4, 5, 6, 7, 8, 9, 10, 11, 12, 13, 14, 15, 16, 17, 18] [none, none, none, some 0, some 1, some 2, some 3, some 4, some 5, some 6, some 7, some 8, some 9, some 10, some 11, some 12, some 13, some 14, some 15] rfl rfl rfl rfl rfl rfl 3 rfl rfl rfl hl.1 rfl (Nat.le_of_ble_eq_true rfl) dX3_printStatement_148 ⟨Nat.zero_le _, Nat.zero_le _⟩ (fun H locs hP hD hS => ?_)
          obtain ⟨q151, e151, h⟩ := g_b h
          refine callVvs (cc := cX3_printStatement) (w1 := zzP ad cy (ad 3) (us iP [(1, q151.1)]) (us aP [(0, q151.2)]) iB lB aB iC aC) (As := [.long q148]) (rest := []) ⟨hx, hb, hml, hown, hts⟩ (c_P_putWord l dC dI cy ad H.size N q148 ((us iP [(1, q139.1)])) ((us aP [(0, q139.2)])) iB lB aB iC aC q151 e151) (cwV 1 hts (goodV m_ml_X3_42 m_im_X3_putWord m_se_X3_putWord m_in_X3 m_cd_X3_putWord) rfl rfl rfl (by decide +kernel) ⟨Nat.le_of_ble_eq_true rfl, Nat.le_of_ble_eq_true rfl⟩) hN hK hP hD hS hA rfl 0 rfl rfl rfl hl.1 rfl (Nat.le_of_ble_eq_true rfl) dX3_printStatement_151 ⟨Nat.zero_le _, Nat.zero_le _⟩ (fun H locs hP hD hS => ?_)
          have h' := Option.some.inj h
          rw [← hQQ]
          exact W.vret hx hb hr (fun t ht hW => ⟨⟨(), rfl, trivial, by rw [← hWQ, ← h', ht]; exact hP, va_K.moved hW.alike hK⟩, hS.F ht⟩) hS.2.2 dX3_printStatement_154
set_option maxHeartbeats 8000000 in
set_option maxRecDepth 100000 in
theorem c_P_printBook (l : Launch) (dC : Nat → ClassId) (dI : Nat → Nat → Nat) (cy : Nat → ClassId) (ad : Nat → Nat) (sz : Nat) (pb : Nat) (N : Nat) (iP : Nat → Int32) (aP : Nat → Nat → Int32) (iB : Nat → Int32) (lB : Nat → Nat → Int64) (aB : Nat → Nat → Int32) (iC : Nat → Int32) (aC : Nat → Nat → Int32) (q : Int32 × Int32 × (Nat → Int32) × (Nat → Int32)) (h : f_P_printBook N (iB 3) (iB 5) (iB 7) (lB 2) (lB 4) (aB 6) (iC 4) (aC 0) (aC 1) (aC 2) (iP 1) (iP 4) (aP 0) (aP 3) = some q) : Met l yX3_printBook wsX3_printBook ({ frames := 5, cells := 0, slots := 0, locals := 119 } : Room) (cP (dC, dI) cy [.ref (ad 0), .ref (ad 3)] (zzP ad cy pb iP aP iB lB aB iC aC) sz) (cQv (dC, dI) cy (zzP ad cy (ad 3) (us iP [(1, q.1), (4, q.2.1)]) (us aP [(0, q.2.2.1), (3, q.2.2.2)]) iB lB aB iC aC) (va_A (zzP ad cy pb iP aP iB lB aB iC aC) sz)) 0 0 (va_A (zzP ad cy pb iP aP iB lB aB iC aC) sz) := by
  refine Met.ofW (cc := cX3_printBook) (maxL := 3) (ret := none) (by decide) rfl ?_
  intro p e s m args below meth c s₁ B hml hv
  obtain ⟨hav, hsz, hP, hK, hD0, hN⟩ := hv
  have hx := B.exec
  have hb := B.bytes
  have hr := B.returns
  have hts := atoms_spec (ws := wsX3_printBook) B.pre
  have hown : s.vm.findClass RX3 = some m.cls := findClass_of_methodNamed B.named
  have hlocks := B.notSynchronized
  subst hsz
  have hD := hD0.self (sz := s.heap.size)
  generalize hAe : va_A (zzP ad cy pb iP aP iB lB aB iC aC) s.heap.size = A at hD ⊢
  have hA : ∀ q : Nat, s.heap.size ≤ q → A q := fun q h => by rw [← hAe]; exact Or.inr h
  have hS : va_S A s.heap s.heap [] := va_S.rf
  generalize hWQ : (zzP ad cy (ad 3) (us iP [(1, q.1), (4, q.2.1)]) (us aP [(0, q.2.2.1), (3, q.2.2.2)]) iB lB aB iC aC) = WQ
  generalize hQQ : MQ below (cQv (dC, dI) cy WQ A) args s 0 0 A = QQ
  have hl := lv_entry ([.ref (ad 0), .ref (ad 3)] : List Value) (n := 3) (Nat.le_of_ble_eq_true rfl)
  have hfr := lg_entry_eq m ([.ref (ad 0), .ref (ad 3)] : List Value) 3
  rw [← hav] at hfr
  rw [hfr]
  clear hfr hav
  generalize (lg_sl ([.ref (ad 0), .ref (ad 3)] : List Value) ++ List.replicate (3 - (lg_sl ([.ref (ad 0), .ref (ad 3)] : List Value)).length) Slot.unset).toArray = ls at hl ⊢
  have hl : lv_has ls 3 [(0, .ref (ad 0)), (1, .ref (ad 3))] := hl
  have kf19 := hts _ (List.mem_cons_of_mem _ m_fl_X3_19)
  have ki3 := (fun w h => List.mem_cons_of_mem _ (i_X3 w h) : ∀ w ∈ u_ws RX3 TX3 5, w ∈ wsX3_printBook)
  have kf27 := hts _ (List.mem_cons_of_mem _ m_fl_X3_27)
  have ki0 := (fun w h => List.mem_cons_of_mem _ (i_X0 w h) : ∀ w ∈ u_ws RX0 TX0 15, w ∈ wsX3_printBook)
  have kc40 := hts _ (List.mem_cons_of_mem _ m_kl_X3_40)
  have kc46 := hts _ (List.mem_cons_of_mem _ m_kl_X3_46)
  have kf23 := hts _ (List.mem_cons_of_mem _ m_fl_X3_23)
  refine (?_ : ∀ (H : Heap) (locs : List Loc), va_P (dC, dI) vwCl (zzP ad cy pb iP aP iB lB aB iC aC) H → va_D A (zzP ad cy pb iP aP iB lB aB iC aC) → va_S A s.heap H locs → W p l e ({ frames := 5, cells := 0, slots := 0, locals := 119 } : Room) s m args below meth c H locs 0 0 QQ (F0 m 0 ls [])) s.heap [] hP hD hS
  clear hP hD hS
  have B12 : ∀ (n : Nat) (v2 : Int32) (x_iP1 : Int32) (x_iP4 : Int32) (x_aP0 : Nat → Int32) (x_aP3 : Nat → Int32) (H : Heap) (locs : List Loc) (ls : Array Slot), f_P_printBook_12 N (iB 3) (iB 5) (iB 7) (lB 2) (lB 4) (aB 6) (iC 4) (aC 0) (aC 1) (aC 2) (iP 1) (iP 4) (aP 0) (aP 3) n v2 x_iP1 x_iP4 x_aP0 x_aP3 = some q → va_P (dC, dI) vwCl (zzP ad cy (ad 3) (us iP [(1, x_iP1), (4, x_iP4)]) (us aP [(0, x_aP0), (3, x_aP3)]) iB lB aB iC aC) H → va_D A (zzP ad cy (ad 3) (us iP [(1, x_iP1), (4, x_iP4)]) (us aP [(0, x_aP0), (3, x_aP3)]) iB lB aB iC aC) → va_S A s.heap H locs → lv_has ls 3 [(0, .ref (ad 0)), (2, .int v2)] → W p l e ({ frames := 5, cells := 0, slots := 0, locals := 119 } : Room) s m args below meth c H locs 0 0 QQ (F0 m 12 ls []) := by
    intro n
    induction n with
    | zero =>
      intro v2 x_iP1 x_iP4 x_aP0 x_aP3 H locs ls h hP hD hS hl
      rw [f_P_printBook_12] at h
      cases h
    | succ n ih =>
      intro v2 x_iP1 x_iP4 x_aP0 x_aP3 H locs ls h hP hD hS hl
      rw [f_P_printBook_12] at h
      refine lv_iload_n hx hb dX3_printBook_12 rfl (lv_at hl 1 rfl) ?_
      refine lv_aload_n hx hb dX3_printBook_13 rfl (lv_at hl 0 rfl) ?_
      refine va_get (D := (dC, dI)) (ci := 3) (v := .ref (ad 3)) (C := RX3) (T := TX3) (N := 5) hx hb hts ki3 hown hK hP 0 rfl rfl 2 (by decide) kf19 (fun _ h9 => h9) rfl dX3_printBook_14 ?_
      refine va_get (D := (dC, dI)) (ci := 0) (v := .int (iB 7)) (C := RX0) (T := TX0) (N := 15) hx hb hts ki0 hown hK hP 3 rfl rfl 7 (by decide) kf27 (fun _ h9 => h9) rfl dX3_printBook_17 ?_
      refine lv_icmp_ge (tgt := 55) hx hb dX3_printBook_20 (by decide) (fun cz => ?_) (fun cz => ?_)
      · have h := g_t h cz
        have h' := Option.some.inj h
        rw [← hQQ]
        exact W.vret hx hb hr (fun t ht hW => ⟨⟨(), rfl, trivial, by rw [← hWQ, ← h', ht]; exact hP, va_K.moved hW.alike hK⟩, hS.F ht⟩) hS.2.2 dX3_printBook_55
      · have h := g_f h cz
        refine lv_aload_n hx hb dX3_printBook_23 rfl (lv_at hl 0 rfl) ?_
        refine lv_aload_n hx hb dX3_printBook_24 rfl (lv_at hl 0 rfl) ?_
        refine va_get (D := (dC, dI)) (ci := 3) (v := .ref (ad 3)) (C := RX3) (T := TX3) (N := 5) hx hb hts ki3 hown hK hP 0 rfl rfl 2 (by decide) kf19 (fun _ h9 => h9) rfl dX3_printBook_25 ?_
        refine lv_iload_n hx hb dX3_printBook_28 rfl (lv_at hl 1 rfl) ?_
        obtain ⟨q29, e29, h⟩ := g_b h
        refine callVi (cc := cX3_printBook) (ws' := zzP ad cy (ad 3) (us iP [(1, x_iP1), (4, x_iP4)]) (us aP [(0, x_aP0), (3, x_aP3)]) iB lB aB iC aC) (As := [.int v2]) (rest := [.ref (ad 0)]) ⟨hx, hb, hml, hown, hts⟩ (c_B_statement l dC dI cy (fun i => ad (i + 3)) H.size v2 iB lB aB iC aC q29 e29) (cwV 1 hts (goodV m_ml_X3_32 m_im_X0_statement m_se_X0_statement m_in_X0 m_cd_X0_statement) rfl rfl rfl (by decide +kernel) ⟨Nat.le_of_ble_eq_true rfl, Nat.le_of_ble_eq_true rfl⟩) hN hK hP hD hS hA [3, 4, 5, 6, 7, 8, 9, 10, 11, 12, 13, 14, 15, 16, 17, 18] [none, none, none, some 0, some 1, some 2, some 3, some 4, some 5, some 6, some 7, some 8, some 9, some 10, some 11, some 12, some 13, some 14, some 15] rfl rfl rfl rfl rfl rfl 3 rfl rfl rfl hl.1 rfl (Nat.le_of_ble_eq_true rfl) dX3_printBook_29 ⟨Nat.zero_le _, Nat.zero_le _⟩ (fun H locs hP hD hS => ?_)
        obtain ⟨q32, e32, h⟩ := g_b h
        refine callVvs (cc := cX3_printBook) (w1 := zzP ad cy (ad 3) (us iP [(1, q32.1), (4, q32.2.1)]) (us aP [(0, q32.2.2.1), (3, q32.2.2.2)]) iB lB aB iC aC) (As := [.int q29]) (rest := []) ⟨hx, hb, hml, hown, hts⟩ (c_P_printStatement l dC dI cy ad H.size N q29 ((us iP [(1, x_iP1), (4, x_iP4)])) ((us aP [(0, x_aP0), (3, x_aP3)])) iB lB aB iC aC q32 e32) (cwV 1 hts (goodV m_ml_X3_36 m_im_X3_printStatement m_se_X3_printStatement m_in_X3 m_cd_X3_printStatement) rfl rfl rfl (by decide +kernel) ⟨Nat.le_of_ble_eq_true rfl, Nat.le_of_ble_eq_true rfl⟩) hN hK hP hD hS hA rfl 0 rfl rfl rfl hl.1 rfl (Nat.le_of_ble_eq_true rfl) dX3_printBook_32 ⟨Nat.zero_le _, Nat.zero_le _⟩ (fun H locs hP hD hS => ?_)
        refine lv_aload_n hx hb dX3_printBook_35 rfl (lv_at hl 0 rfl) ?_
        refine lv_ldc2 (v := 59) hx hb hown kc40 dX3_printBook_36 ?_
        obtain ⟨q39, e39, h⟩ := g_b h
        refine callVvs (cc := cX3_printBook) (w1 := zzP ad cy (ad 3) (us iP [(1, q39.1), (4, q32.2.1)]) (us aP [(0, q39.2), (3, q32.2.2.2)]) iB lB aB iC aC) (As := [.long ((59 : Int64))]) (rest := []) ⟨hx, hb, hml, hown, hts⟩ (c_P_putWord l dC dI cy ad H.size N ((59 : Int64)) ((us iP [(1, q32.1), (4, q32.2.1)])) ((us aP [(0, q32.2.2.1), (3, q32.2.2.2)])) iB lB aB iC aC q39 e39) (cwV 1 hts (goodV m_ml_X3_42 m_im_X3_putWord m_se_X3_putWord m_in_X3 m_cd_X3_putWord) rfl rfl rfl (by decide +kernel) ⟨Nat.le_of_ble_eq_true rfl, Nat.le_of_ble_eq_true rfl⟩) hN hK hP hD hS hA rfl 0 rfl rfl rfl hl.1 rfl (Nat.le_of_ble_eq_true rfl) dX3_printBook_39 ⟨Nat.zero_le _, Nat.zero_le _⟩ (fun H locs hP hD hS => ?_)
        refine lv_aload_n hx hb dX3_printBook_42 rfl (lv_at hl 0 rfl) ?_
        refine lv_ldc2 (v := 10) hx hb hown kc46 dX3_printBook_43 ?_
        obtain ⟨q46, e46, h⟩ := g_b h
        refine callVvs (cc := cX3_printBook) (w1 := zzP ad cy (ad 3) (us iP [(1, q46.1), (4, q32.2.1)]) (us aP [(0, q46.2), (3, q32.2.2.2)]) iB lB aB iC aC) (As := [.long ((10 : Int64))]) (rest := []) ⟨hx, hb, hml, hown, hts⟩ (c_P_putWord l dC dI cy ad H.size N ((10 : Int64)) ((us iP [(1, q39.1), (4, q32.2.1)])) ((us aP [(0, q39.2), (3, q32.2.2.2)])) iB lB aB iC aC q46 e46) (cwV 1 hts (goodV m_ml_X3_42 m_im_X3_putWord m_se_X3_putWord m_in_X3 m_cd_X3_putWord) rfl rfl rfl (by decide +kernel) ⟨Nat.le_of_ble_eq_true rfl, Nat.le_of_ble_eq_true rfl⟩) hN hK hP hD hS hA rfl 0 rfl rfl rfl hl.1 rfl (Nat.le_of_ble_eq_true rfl) dX3_printBook_46 ⟨Nat.zero_le _, Nat.zero_le _⟩ (fun H locs hP hD hS => ?_)
        refine lv_iinc (v := (v2 + (1 : Int32))) (lv' := [(2, .int ((v2 + (1 : Int32)))), (0, .ref (ad 0))]) hx hb dX3_printBook_49 hl (k := 1) rfl rfl (by decide) rfl (fun ls hl => ?_)
        refine lv_goto (tgt := 12) hx hb dX3_printBook_52 (by decide) ?_
        exact ih ((v2 + (1 : Int32))) q46.1 q32.2.1 q46.2 q32.2.2.2 H locs ls h hP hD hS (lv_sub hl [1, 0] rfl)
  intro H locs hP hD hS
  unfold f_P_printBook at h
  refine lv_aload_n hx hb dX3_printBook_0 rfl (lv_at hl 0 rfl) ?_
  refine lv_aload_n hx hb dX3_printBook_1 rfl (lv_at hl 1 rfl) ?_
  refine va_put (D := (dC, dI)) (ci := 3) (v := .ref (ad 3)) (ty := (.object "TypeCourt$Book")) (C := RX3) (T := TX3) (N := 5) hx hb hts ki3 tyX3 tyX3_ok nmX3 hown hK hP hD hS 0 rfl rfl 2 (by decide) kf19 (fun _ h9 => h9) rfl (by decide +kernel) rfl rfl (Nat.le_of_ble_eq_true rfl) dX3_printBook_2 (fun H locs hP hD hS => ?_)
  have hP : va_P (dC, dI) vwCl (zzP ad cy (ad 3) iP aP iB lB aB iC aC) H := hP
  have hD : va_D A (zzP ad cy (ad 3) iP aP iB lB aB iC aC) := hD
  refine lv_aload_n hx hb dX3_printBook_5 rfl (lv_at hl 0 rfl) ?_
  refine lv_iconst (v := 0) hx hb dX3_printBook_6 (by decide) ?_
  refine va_put (D := (dC, dI)) (ci := 3) (v := .int ((0 : Int32))) (ty := .int) (C := RX3) (T := TX3) (N := 5) hx hb hts ki3 tyX3 tyX3_ok nmX3 hown hK hP hD hS 0 rfl rfl 1 (by decide) kf23 (fun _ h9 => h9) rfl (by decide +kernel) rfl rfl (Nat.le_of_ble_eq_true rfl) dX3_printBook_7 (fun H locs hP hD hS => ?_)
  have hP : va_P (dC, dI) vwCl (zzP ad cy (ad 3) (us iP [(1, (0 : Int32))]) aP iB lB aB iC aC) H := Eq.mp (congrArg (fun w => va_P (dC, dI) vwCl w H) (sfP_iP1 ad cy (ad 3) iP aP iB lB aB iC aC ((0 : Int32)))) hP
  have hD : va_D A (zzP ad cy (ad 3) (us iP [(1, (0 : Int32))]) aP iB lB aB iC aC) := Eq.mp (congrArg (fun w => va_D A w) (sfP_iP1 ad cy (ad 3) iP aP iB lB aB iC aC ((0 : Int32)))) hD
  refine lv_iconst (v := 0) hx hb dX3_printBook_10 (by decide) ?_
  refine lv_istore_n (lv' := [(2, .int ((0 : Int32))), (0, .ref (ad 0)), (1, .ref (ad 3))]) hx hb dX3_printBook_11 rfl hl (by decide) rfl (fun ls hl => ?_)
  exact B12 N ((0 : Int32)) ((0 : Int32)) (iP 4) (aP 0) (aP 3) H locs ls h hP hD hS (lv_sub hl [1, 0] rfl)
set_option maxHeartbeats 8000000 in
set_option maxRecDepth 100000 in
theorem c_X_print (l : Launch) (dC : Nat → ClassId) (dI : Nat → Nat → Nat) (cy : Nat → ClassId) (ad : Nat → Nat) (sz : Nat) (rb : Nat) (rc : Nat) (pb : Nat) (N : Nat) (iX : Nat → Int32) (iR : Nat → Int32) (iT : Nat → Int32) (wT : Int64) (tx : Nat → Int32) (iB : Nat → Int32) (lB : Nat → Nat → Int64) (aB : Nat → Nat → Int32) (iC : Nat → Int32) (aC : Nat → Nat → Int32) (iD : Nat → Int32) (lD : Nat → Nat → Int64) (aD : Nat → Nat → Int32) (iE : Nat → Int32) (aE : Nat → Nat → Int32) (iK : Nat → Int32) (lK : Nat → Nat → Int64) (aK : Nat → Nat → Int32) (iW : Nat → Int32) (aW : Nat → Nat → Int32) (iP : Nat → Int32) (aP : Nat → Nat → Int32) (q : Int32 × Int32 × Int32 × (Nat → Int32) × (Nat → Int32) × Bool) (h : f_X_print N (iX 5) (iB 3) (iB 5) (iB 7) (lB 2) (lB 4) (aB 6) (iC 4) (aC 0) (aC 1) (aC 2) (iP 1) (iP 4) (aP 0) (aP 3) = some q) : Met l yX7_print wsX7_print ({ frames := 6, cells := 0, slots := 0, locals := 141 } : Room) (cP (dC, dI) cy [.ref (ad 0)] (zzX ad cy rb rc (ad 4) (ad 11) pb (ad 4) (ad 20) iX iR iT wT tx iB lB aB iC aC iD lD aD iE aE iK lK aK iW aW iP aP) sz) (cQi (dC, dI) cy q.1 (zzX ad cy rb rc (ad 4) (ad 11) (cond q.2.2.2.2.2 (ad 4) pb) (ad 4) (ad 20) iX iR iT wT tx iB lB aB iC aC iD lD aD iE aE iK lK aK iW aW (us iP [(1, q.2.1), (4, q.2.2.1)]) (us aP [(0, q.2.2.2.1), (3, q.2.2.2.2.1)])) (va_A (zzX ad cy rb rc (ad 4) (ad 11) pb (ad 4) (ad 20) iX iR iT wT tx iB lB aB iC aC iD lD aD iE aE iK lK aK iW aW iP aP) sz)) 0 0 (va_A (zzX ad cy rb rc (ad 4) (ad 11) pb (ad 4) (ad 20) iX iR iT wT tx iB lB aB iC aC iD lD aD iE aE iK lK aK iW aW iP aP) sz) := by
  refine Met.ofW (cc := cX7_print) (maxL := 1) (ret := (some .int)) (by decide) rfl ?_
  intro p e s m args below meth c s₁ B hml hv
  obtain ⟨hav, hsz, hP, hK, hD0, hN⟩ := hv
  have hx := B.exec
  have hb := B.bytes
  have hr := B.returns
  have hts := atoms_spec (ws := wsX7_print) B.pre
  have hown : s.vm.findClass RX7 = some m.cls := findClass_of_methodNamed B.named
  have hlocks := B.notSynchronized
  subst hsz
  have hD := hD0.self (sz := s.heap.size)
  generalize hAe : va_A (zzX ad cy rb rc (ad 4) (ad 11) pb (ad 4) (ad 20) iX iR iT wT tx iB lB aB iC aC iD lD aD iE aE iK lK aK iW aW iP aP) s.heap.size = A at hD ⊢
  have hA : ∀ q : Nat, s.heap.size ≤ q → A q := fun q h => by rw [← hAe]; exact Or.inr h
  have hS : va_S A s.heap s.heap [] := va_S.rf
  generalize hWQ : (zzX ad cy rb rc (ad 4) (ad 11) (cond q.2.2.2.2.2 (ad 4) pb) (ad 4) (ad 20) iX iR iT wT tx iB lB aB iC aC iD lD aD iE aE iK lK aK iW aW (us iP [(1, q.2.1), (4, q.2.2.1)]) (us aP [(0, q.2.2.2.1), (3, q.2.2.2.2.1)])) = WQ
  generalize hQQ : MQ below (cQi (dC, dI) cy q.1 WQ A) args s 0 0 A = QQ
  have hl := lv_entry ([.ref (ad 0)] : List Value) (n := 1) (Nat.le_of_ble_eq_true rfl)
  have hfr := lg_entry_eq m ([.ref (ad 0)] : List Value) 1
  rw [← hav] at hfr
  rw [hfr]
  clear hfr hav
  generalize (lg_sl ([.ref (ad 0)] : List Value) ++ List.replicate (1 - (lg_sl ([.ref (ad 0)] : List Value)).length) Slot.unset).toArray = ls at hl ⊢
  have hl : lv_has ls 1 [(0, .ref (ad 0))] := hl
  have kf70 := hts _ (List.mem_cons_of_mem _ m_fl_X7_70)
  have ki7 := (fun w h => List.mem_cons_of_mem _ (i_X7 w h) : ∀ w ∈ u_ws RX7 TX7 9, w ∈ wsX7_print)
  have kf51 := hts _ (List.mem_cons_of_mem _ m_fl_X7_51)
  have kf16 := hts _ (List.mem_cons_of_mem _ m_fl_X7_16)
  have kf86 := hts _ (List.mem_cons_of_mem _ m_fl_X7_86)
  have ki3 := (fun w h => List.mem_cons_of_mem _ (i_X3 w h) : ∀ w ∈ u_ws RX3 TX3 5, w ∈ wsX7_print)
  refine (?_ : ∀ (H : Heap) (locs : List Loc), va_P (dC, dI) vwCl (zzX ad cy rb rc (ad 4) (ad 11) pb (ad 4) (ad 20) iX iR iT wT tx iB lB aB iC aC iD lD aD iE aE iK lK aK iW aW iP aP) H → va_D A (zzX ad cy rb rc (ad 4) (ad 11) pb (ad 4) (ad 20) iX iR iT wT tx iB lB aB iC aC iD lD aD iE aE iK lK aK iW aW iP aP) → va_S A s.heap H locs → W p l e ({ frames := 6, cells := 0, slots := 0, locals := 141 } : Room) s m args below meth c H locs 0 0 QQ (F0 m 0 ls [])) s.heap [] hP hD hS
  clear hP hD hS
  intro H locs hP hD hS
  unfold f_X_print at h
  refine lv_aload_n hx hb dX7_print_0 rfl (lv_at hl 0 rfl) ?_
  refine va_get (D := (dC, dI)) (ci := 7) (v := .int (iX 5)) (C := RX7) (T := TX7) (N := 9) hx hb hts ki7 hown hK hP 0 rfl rfl 5 (by decide) kf70 (fun _ h9 => h9) rfl dX7_print_1 ?_
  refine lv_if_ne (tgt := 10) hx hb dX7_print_4 (by decide) (fun cz => ?_) (fun cz => ?_)
  · have h := g_f h cz
    refine lv_aload_n hx hb dX7_print_10 rfl (lv_at hl 0 rfl) ?_
    refine va_get (D := (dC, dI)) (ci := 7) (v := .ref (ad 51)) (C := RX7) (T := TX7) (N := 9) hx hb hts ki7 hown hK hP 0 rfl rfl 8 (by decide) kf51 (fun _ h9 => h9) rfl dX7_print_11 ?_
    refine lv_aload_n hx hb dX7_print_14 rfl (lv_at hl 0 rfl) ?_
    refine va_get (D := (dC, dI)) (ci := 7) (v := .ref (ad 4)) (C := RX7) (T := TX7) (N := 9) hx hb hts ki7 hown hK hP 0 rfl rfl 3 (by decide) kf16 (fun _ h9 => h9) rfl dX7_print_15 ?_
    obtain ⟨q18, e18, h⟩ := g_b h
    refine callVv (cc := cX7_print) (ws' := zzX ad cy rb rc (ad 4) (ad 11) (ad 4) (ad 4) (ad 20) iX iR iT wT tx iB lB aB iC aC iD lD aD iE aE iK lK aK iW aW (us iP [(1, q18.1), (4, q18.2.1)]) (us aP [(0, q18.2.2.1), (3, q18.2.2.2)])) (As := [.ref (ad 4)]) (rest := []) ⟨hx, hb, hml, hown, hts⟩ (c_P_printBook l dC dI cy (fun i => ad (([51, 52, 53, 4, 5, 6, 7, 8, 9, 10, 11, 12, 13, 14, 15, 16, 17, 18, 19] : List Nat).getD i 0)) H.size pb N iP aP iB lB aB iC aC q18 e18) (cwV 1 hts (goodV m_ml_X7_198 m_im_X3_printBook m_se_X3_printBook m_in_X3 m_cd_X3_printBook) rfl rfl rfl (by decide +kernel) ⟨Nat.le_of_ble_eq_true rfl, Nat.le_of_ble_eq_true rfl⟩) hN hK hP hD hS hA [51, 52, 53, 4, 5, 6, 7, 8, 9, 10, 11, 12, 13, 14, 15, 16, 17, 18, 19] [none, none, none, none, some 3, some 4, some 5, some 6, some 7, some 8, some 9, some 10, some 11, some 12, some 13, some 14, some 15, some 16, some 17, some 18, none, none, none, none, none, none, none, none, none, none, none, none, none, none, none, none, none, none, none, none, none, none, none, none, none, none, none, none, none, none, none, some 0, some 1, some 2] rfl rfl rfl rfl rfl rfl 51 rfl rfl rfl hl.1 rfl (Nat.le_of_ble_eq_true rfl) dX7_print_18 ⟨Nat.zero_le _, Nat.zero_le _⟩ (fun H locs hP hD hS => ?_)
    refine lv_aload_n hx hb dX7_print_21 rfl (lv_at hl 0 rfl) ?_
    refine va_get (D := (dC, dI)) (ci := 7) (v := .ref (ad 51)) (C := RX7) (T := TX7) (N := 9) hx hb hts ki7 hown hK hP 0 rfl rfl 8 (by decide) kf51 (fun _ h9 => h9) rfl dX7_print_22 ?_
    refine va_get (D := (dC, dI)) (ci := 3) (v := .int q18.1) (C := RX3) (T := TX3) (N := 5) hx hb hts ki3 hown hK hP 51 rfl rfl 1 (by decide) kf86 (fun _ h9 => h9) rfl dX7_print_25 ?_
    have h' := Option.some.inj h
    rw [← hQQ]
    exact W.iret (v := q18.1) hx hb hr (fun t ht hW => ⟨⟨q18.1, (), rfl, by rw [← h'], by rw [← hWQ, ← h', ht]; exact hP, va_K.moved hW.alike hK⟩, hS.F ht⟩) hS.2.2 dX7_print_28
  · have h := g_t h cz
    refine lv_bipush (v := (-101)) hx hb dX7_print_7 (by decide) ?_
    have h' := Option.some.inj h
    rw [← hQQ]
    exact W.iret (v := (-101 : Int32)) hx hb hr (fun t ht hW => ⟨⟨(-101 : Int32), (), rfl, by rw [← h'], by rw [← hWQ, ← h', ht]; exact hP, va_K.moved hW.alike hK⟩, hS.F ht⟩) hS.2.2 dX7_print_9
set_option maxHeartbeats 8000000 in
set_option maxRecDepth 100000 in
theorem c_X_out (l : Launch) (dC : Nat → ClassId) (dI : Nat → Nat → Nat) (cy : Nat → ClassId) (ad : Nat → Nat) (sz : Nat) (rb : Nat) (rc : Nat) (pb : Nat) (a1 : Int32) (iX : Nat → Int32) (iR : Nat → Int32) (iT : Nat → Int32) (wT : Int64) (tx : Nat → Int32) (iB : Nat → Int32) (lB : Nat → Nat → Int64) (aB : Nat → Nat → Int32) (iC : Nat → Int32) (aC : Nat → Nat → Int32) (iD : Nat → Int32) (lD : Nat → Nat → Int64) (aD : Nat → Nat → Int32) (iE : Nat → Int32) (aE : Nat → Nat → Int32) (iK : Nat → Int32) (lK : Nat → Nat → Int64) (aK : Nat → Nat → Int32) (iW : Nat → Int32) (aW : Nat → Nat → Int32) (iP : Nat → Int32) (aP : Nat → Nat → Int32) (q : Int32) (h : f_X_out a1 (iP 1) (aP 0) = some q) : Met l yX7_out wsX7_out ({ frames := 0, cells := 0, slots := 0, locals := 0 } : Room) (cP (dC, dI) cy [.ref (ad 0), .int a1] (zzX ad cy rb rc (ad 4) (ad 11) pb (ad 4) (ad 20) iX iR iT wT tx iB lB aB iC aC iD lD aD iE aE iK lK aK iW aW iP aP) sz) (cQi (dC, dI) cy q (zzX ad cy rb rc (ad 4) (ad 11) pb (ad 4) (ad 20) iX iR iT wT tx iB lB aB iC aC iD lD aD iE aE iK lK aK iW aW iP aP) (va_A (zzX ad cy rb rc (ad 4) (ad 11) pb (ad 4) (ad 20) iX iR iT wT tx iB lB aB iC aC iD lD aD iE aE iK lK aK iW aW iP aP) sz)) 0 0 (va_A (zzX ad cy rb rc (ad 4) (ad 11) pb (ad 4) (ad 20) iX iR iT wT tx iB lB aB iC aC iD lD aD iE aE iK lK aK iW aW iP aP) sz) := by
  refine Met.ofW (cc := cX7_out) (maxL := 2) (ret := (some .int)) (by decide) rfl ?_
  intro p e s m args below meth c s₁ B hml hv
  obtain ⟨hav, hsz, hP, hK, hD0, hN⟩ := hv
  have hx := B.exec
  have hb := B.bytes
  have hr := B.returns
  have hts := atoms_spec (ws := wsX7_out) B.pre
  have hown : s.vm.findClass RX7 = some m.cls := findClass_of_methodNamed B.named
  have hlocks := B.notSynchronized
  subst hsz
  have hD := hD0.self (sz := s.heap.size)
  generalize hAe : va_A (zzX ad cy rb rc (ad 4) (ad 11) pb (ad 4) (ad 20) iX iR iT wT tx iB lB aB iC aC iD lD aD iE aE iK lK aK iW aW iP aP) s.heap.size = A at hD ⊢
  have hA : ∀ q : Nat, s.heap.size ≤ q → A q := fun q h => by rw [← hAe]; exact Or.inr h
  have hS : va_S A s.heap s.heap [] := va_S.rf
  generalize hWQ : (zzX ad cy rb rc (ad 4) (ad 11) pb (ad 4) (ad 20) iX iR iT wT tx iB lB aB iC aC iD lD aD iE aE iK lK aK iW aW iP aP) = WQ
  generalize hQQ : MQ below (cQi (dC, dI) cy q WQ A) args s 0 0 A = QQ
  have hl := lv_entry ([.ref (ad 0), .int a1] : List Value) (n := 2) (Nat.le_of_ble_eq_true rfl)
  have hfr := lg_entry_eq m ([.ref (ad 0), .int a1] : List Value) 2
  rw [← hav] at hfr
  rw [hfr]
  clear hfr hav
  generalize (lg_sl ([.ref (ad 0), .int a1] : List Value) ++ List.replicate (2 - (lg_sl ([.ref (ad 0), .int a1] : List Value)).length) Slot.unset).toArray = ls at hl ⊢
  have hl : lv_has ls 2 [(0, .ref (ad 0)), (1, .int a1)] := hl
  have kf51 := hts _ (List.mem_cons_of_mem _ m_fl_X7_51)
  have ki7 := (fun w h => List.mem_cons_of_mem _ (i_X7 w h) : ∀ w ∈ u_ws RX7 TX7 9, w ∈ wsX7_out)
  have kf86 := hts _ (List.mem_cons_of_mem _ m_fl_X7_86)
  have ki3 := (fun w h => List.mem_cons_of_mem _ (i_X3 w h) : ∀ w ∈ u_ws RX3 TX3 5, w ∈ wsX7_out)
  have kf201 := hts _ (List.mem_cons_of_mem _ m_fl_X7_201)
  refine (?_ : ∀ (H : Heap) (locs : List Loc), va_P (dC, dI) vwCl (zzX ad cy rb rc (ad 4) (ad 11) pb (ad 4) (ad 20) iX iR iT wT tx iB lB aB iC aC iD lD aD iE aE iK lK aK iW aW iP aP) H → va_D A (zzX ad cy rb rc (ad 4) (ad 11) pb (ad 4) (ad 20) iX iR iT wT tx iB lB aB iC aC iD lD aD iE aE iK lK aK iW aW iP aP) → va_S A s.heap H locs → W p l e ({ frames := 0, cells := 0, slots := 0, locals := 0 } : Room) s m args below meth c H locs 0 0 QQ (F0 m 0 ls [])) s.heap [] hP hD hS
  clear hP hD hS
  intro H locs hP hD hS
  unfold f_X_out at h
  refine lv_iload_n hx hb dX7_out_0 rfl (lv_at hl 1 rfl) ?_
  refine lv_if_lt (tgt := 27) hx hb dX7_out_1 (by decide) (fun cz => ?_) (fun cz => ?_)
  · have h := g_t h cz
    refine lv_iconst (v := (-1)) hx hb dX7_out_27 (by decide) ?_
    have h' := Option.some.inj h
    rw [← hQQ]
    exact W.iret (v := (-1 : Int32)) hx hb hr (fun t ht hW => ⟨⟨(-1 : Int32), (), rfl, by rw [← h'], by rw [← hWQ, ht]; exact hP, va_K.moved hW.alike hK⟩, hS.F ht⟩) hS.2.2 dX7_out_28
  · have h := g_f h cz
    refine lv_iload_n hx hb dX7_out_4 rfl (lv_at hl 1 rfl) ?_
    refine lv_aload_n hx hb dX7_out_5 rfl (lv_at hl 0 rfl) ?_
    refine va_get (D := (dC, dI)) (ci := 7) (v := .ref (ad 51)) (C := RX7) (T := TX7) (N := 9) hx hb hts ki7 hown hK hP 0 rfl rfl 8 (by decide) kf51 (fun _ h9 => h9) rfl dX7_out_6 ?_
    refine va_get (D := (dC, dI)) (ci := 3) (v := .int (iP 1)) (C := RX3) (T := TX3) (N := 5) hx hb hts ki3 hown hK hP 51 rfl rfl 1 (by decide) kf86 (fun _ h9 => h9) rfl dX7_out_9 ?_
    refine lv_icmp_ge (tgt := 27) hx hb dX7_out_12 (by decide) (fun cz => ?_) (fun cz => ?_)
    · have h := g_t h cz
      refine lv_iconst (v := (-1)) hx hb dX7_out_27 (by decide) ?_
      have h' := Option.some.inj h
      rw [← hQQ]
      exact W.iret (v := (-1 : Int32)) hx hb hr (fun t ht hW => ⟨⟨(-1 : Int32), (), rfl, by rw [← h'], by rw [← hWQ, ht]; exact hP, va_K.moved hW.alike hK⟩, hS.F ht⟩) hS.2.2 dX7_out_28
    · have h := g_f h cz
      refine lv_aload_n hx hb dX7_out_15 rfl (lv_at hl 0 rfl) ?_
      refine va_get (D := (dC, dI)) (ci := 7) (v := .ref (ad 51)) (C := RX7) (T := TX7) (N := 9) hx hb hts ki7 hown hK hP 0 rfl rfl 8 (by decide) kf51 (fun _ h9 => h9) rfl dX7_out_16 ?_
      refine va_get (D := (dC, dI)) (ci := 3) (v := .ref (ad 52)) (C := RX3) (T := TX3) (N := 5) hx hb hts ki3 hown hK hP 51 rfl rfl 0 (by decide) kf201 (fun _ h9 => h9) rfl dX7_out_19 ?_
      refine lv_iload_n hx hb dX7_out_22 rfl (lv_at hl 1 rfl) ?_
      obtain ⟨g_46, h⟩ := g_n h
      refine va_bald (f := (aP 0)) hx hb hK hP 52 1 rfl rfl g_46 dX7_out_23 ?_
      refine lv_goto (tgt := 28) hx hb dX7_out_24 (by decide) ?_
      have h' := Option.some.inj h
      rw [← hQQ]
      exact W.iret (v := ((aP 0) a1.toNatClampNeg)) hx hb hr (fun t ht hW => ⟨⟨((aP 0) a1.toNatClampNeg), (), rfl, by rw [← h'], by rw [← hWQ, ht]; exact hP, va_K.moved hW.alike hK⟩, hS.F ht⟩) hS.2.2 dX7_out_28
set_option maxHeartbeats 8000000 in
set_option maxRecDepth 100000 in
theorem c_X_back (l : Launch) (dC : Nat → ClassId) (dI : Nat → Nat → Nat) (cy : Nat → ClassId) (ad : Nat → Nat) (sz : Nat) (rb : Nat) (rc : Nat) (pb : Nat) (iX : Nat → Int32) (iR : Nat → Int32) (iT : Nat → Int32) (wT : Int64) (tx : Nat → Int32) (iB : Nat → Int32) (lB : Nat → Nat → Int64) (aB : Nat → Nat → Int32) (iC : Nat → Int32) (aC : Nat → Nat → Int32) (iD : Nat → Int32) (lD : Nat → Nat → Int64) (aD : Nat → Nat → Int32) (iE : Nat → Int32) (aE : Nat → Nat → Int32) (iK : Nat → Int32) (lK : Nat → Nat → Int64) (aK : Nat → Nat → Int32) (iW : Nat → Int32) (aW : Nat → Nat → Int32) (iP : Nat → Int32) (aP : Nat → Nat → Int32) (q : Int32 × Int32 × (Nat → Int32)) (h : f_X_back (iX 1) tx (iP 1) (aP 0) = some q) : Met l yX7_back wsX7_back ({ frames := 1, cells := 0, slots := 0, locals := 100 } : Room) (cP (dC, dI) cy [.ref (ad 0)] (zzX ad cy rb rc (ad 4) (ad 11) pb (ad 4) (ad 20) iX iR iT wT tx iB lB aB iC aC iD lD aD iE aE iK lK aK iW aW iP aP) sz) (cQi (dC, dI) cy q.1 (zzX ad cy rb rc (ad 4) (ad 11) pb (ad 4) (ad 20) (us iX [(1, q.2.1)]) iR iT wT q.2.2 iB lB aB iC aC iD lD aD iE aE iK lK aK iW aW iP aP) (va_A (zzX ad cy rb rc (ad 4) (ad 11) pb (ad 4) (ad 20) iX iR iT wT tx iB lB aB iC aC iD lD aD iE aE iK lK aK iW aW iP aP) sz)) 0 0 (va_A (zzX ad cy rb rc (ad 4) (ad 11) pb (ad 4) (ad 20) iX iR iT wT tx iB lB aB iC aC iD lD aD iE aE iK lK aK iW aW iP aP) sz) := by
  refine Met.ofW (cc := cX7_back) (maxL := 1) (ret := (some .int)) (by decide) rfl ?_
  intro p e s m args below meth c s₁ B hml hv
  obtain ⟨hav, hsz, hP, hK, hD0, hN⟩ := hv
  have hx := B.exec
  have hb := B.bytes
  have hr := B.returns
  have hts := atoms_spec (ws := wsX7_back) B.pre
  have hown : s.vm.findClass RX7 = some m.cls := findClass_of_methodNamed B.named
  have hlocks := B.notSynchronized
  subst hsz
  have hD := hD0.self (sz := s.heap.size)
  generalize hAe : va_A (zzX ad cy rb rc (ad 4) (ad 11) pb (ad 4) (ad 20) iX iR iT wT tx iB lB aB iC aC iD lD aD iE aE iK lK aK iW aW iP aP) s.heap.size = A at hD ⊢
  have hA : ∀ q : Nat, s.heap.size ≤ q → A q := fun q h => by rw [← hAe]; exact Or.inr h
  have hS : va_S A s.heap s.heap [] := va_S.rf
  generalize hWQ : (zzX ad cy rb rc (ad 4) (ad 11) pb (ad 4) (ad 20) (us iX [(1, q.2.1)]) iR iT wT q.2.2 iB lB aB iC aC iD lD aD iE aE iK lK aK iW aW iP aP) = WQ
  generalize hQQ : MQ below (cQi (dC, dI) cy q.1 WQ A) args s 0 0 A = QQ
  have hl := lv_entry ([.ref (ad 0)] : List Value) (n := 1) (Nat.le_of_ble_eq_true rfl)
  have hfr := lg_entry_eq m ([.ref (ad 0)] : List Value) 1
  rw [← hav] at hfr
  rw [hfr]
  clear hfr hav
  generalize (lg_sl ([.ref (ad 0)] : List Value) ++ List.replicate (1 - (lg_sl ([.ref (ad 0)] : List Value)).length) Slot.unset).toArray = ls at hl ⊢
  have hl : lv_has ls 1 [(0, .ref (ad 0))] := hl
  have kf51 := hts _ (List.mem_cons_of_mem _ m_fl_X7_51)
  have ki7 := (fun w h => List.mem_cons_of_mem _ (i_X7 w h) : ∀ w ∈ u_ws RX7 TX7 9, w ∈ wsX7_back)
  have kf86 := hts _ (List.mem_cons_of_mem _ m_fl_X7_86)
  have ki3 := (fun w h => List.mem_cons_of_mem _ (i_X3 w h) : ∀ w ∈ u_ws RX3 TX3 5, w ∈ wsX7_back)
  have km1 := hts _ (List.mem_cons_of_mem _ m_ml_X7_204)
  have km2 := hts _ (List.mem_cons_of_mem _ m_st_java_lang_Math_min)
  have km3 := hts _ (List.mem_cons_of_mem _ m_in_java_lang_Math)
  have km4 := hts _ (List.mem_cons_of_mem _ m_cd_java_lang_Math_min)
  have kf55 := hts _ (List.mem_cons_of_mem _ m_fl_X7_55)
  have kf201 := hts _ (List.mem_cons_of_mem _ m_fl_X7_201)
  have kf9 := hts _ (List.mem_cons_of_mem _ m_fl_X7_9)
  have ka1 := hts _ (List.mem_cons_of_mem _ m_ml_X7_210)
  have ka2 := hts _ (List.mem_cons_of_mem _ m_na_java_lang_System_arraycopy)
  have ka3 := hts _ (List.mem_cons_of_mem _ m_st_java_lang_System_arraycopy)
  have ka4 := hts _ (List.mem_cons_of_mem _ m_in_java_lang_System)
  refine (?_ : ∀ (H : Heap) (locs : List Loc), va_P (dC, dI) vwCl (zzX ad cy rb rc (ad 4) (ad 11) pb (ad 4) (ad 20) iX iR iT wT tx iB lB aB iC aC iD lD aD iE aE iK lK aK iW aW iP aP) H → va_D A (zzX ad cy rb rc (ad 4) (ad 11) pb (ad 4) (ad 20) iX iR iT wT tx iB lB aB iC aC iD lD aD iE aE iK lK aK iW aW iP aP) → va_S A s.heap H locs → W p l e ({ frames := 1, cells := 0, slots := 0, locals := 100 } : Room) s m args below meth c H locs 0 0 QQ (F0 m 0 ls [])) s.heap [] hP hD hS
  clear hP hD hS
  intro H locs hP hD hS
  unfold f_X_back at h
  refine lv_aload_n hx hb dX7_back_0 rfl (lv_at hl 0 rfl) ?_
  refine lv_aload_n hx hb dX7_back_1 rfl (lv_at hl 0 rfl) ?_
  refine va_get (D := (dC, dI)) (ci := 7) (v := .ref (ad 51)) (C := RX7) (T := TX7) (N := 9) hx hb hts ki7 hown hK hP 0 rfl rfl 8 (by decide) kf51 (fun _ h9 => h9) rfl dX7_back_2 ?_
  refine va_get (D := (dC, dI)) (ci := 3) (v := .int (iP 1)) (C := RX3) (T := TX3) (N := 5) hx hb hts ki3 hown hK hP 51 rfl rfl 1 (by decide) kf86 (fun _ h9 => h9) rfl dX7_back_5 ?_
  refine lv_sipush (v := 2000) hx hb dX7_back_8 (by decide) ?_
  refine va_mmin hx hb (by rw [hml]; exact hl.1.symm) hown km1 km2 km3 km4 (Nat.le_of_ble_eq_true rfl) (Nat.le_of_ble_eq_true rfl) (Nat.zero_le _) (Nat.zero_le _) dX7_back_11 ?_
  refine va_put (D := (dC, dI)) (ci := 7) (v := .int ((if (2000 : Int32) < (iP 1) then (2000 : Int32) else (iP 1)))) (ty := .int) (C := RX7) (T := TX7) (N := 9) hx hb hts ki7 tyX7 tyX7_ok nmX7 hown hK hP hD hS 0 rfl rfl 1 (by decide) kf55 (fun _ h9 => h9) rfl (by decide +kernel) rfl rfl (Nat.le_of_ble_eq_true rfl) dX7_back_14 (fun H locs hP hD hS => ?_)
  have hP : va_P (dC, dI) vwCl (zzX ad cy rb rc (ad 4) (ad 11) pb (ad 4) (ad 20) (us iX [(1, (if (2000 : Int32) < (iP 1) then (2000 : Int32) else (iP 1)))]) iR iT wT tx iB lB aB iC aC iD lD aD iE aE iK lK aK iW aW iP aP) H := Eq.mp (congrArg (fun w => va_P (dC, dI) vwCl w H) (sfX_iX1 ad cy rb rc (ad 4) (ad 11) pb (ad 4) (ad 20) iX iR iT wT tx iB lB aB iC aC iD lD aD iE aE iK lK aK iW aW iP aP ((if (2000 : Int32) < (iP 1) then (2000 : Int32) else (iP 1))))) hP
  have hD : va_D A (zzX ad cy rb rc (ad 4) (ad 11) pb (ad 4) (ad 20) (us iX [(1, (if (2000 : Int32) < (iP 1) then (2000 : Int32) else (iP 1)))]) iR iT wT tx iB lB aB iC aC iD lD aD iE aE iK lK aK iW aW iP aP) := Eq.mp (congrArg (fun w => va_D A w) (sfX_iX1 ad cy rb rc (ad 4) (ad 11) pb (ad 4) (ad 20) iX iR iT wT tx iB lB aB iC aC iD lD aD iE aE iK lK aK iW aW iP aP ((if (2000 : Int32) < (iP 1) then (2000 : Int32) else (iP 1))))) hD
  refine lv_aload_n hx hb dX7_back_17 rfl (lv_at hl 0 rfl) ?_
  refine va_get (D := (dC, dI)) (ci := 7) (v := .ref (ad 51)) (C := RX7) (T := TX7) (N := 9) hx hb hts ki7 hown hK hP 0 rfl rfl 8 (by decide) kf51 (fun _ h9 => h9) rfl dX7_back_18 ?_
  refine va_get (D := (dC, dI)) (ci := 3) (v := .ref (ad 52)) (C := RX3) (T := TX3) (N := 5) hx hb hts ki3 hown hK hP 51 rfl rfl 0 (by decide) kf201 (fun _ h9 => h9) rfl dX7_back_21 ?_
  refine lv_iconst (v := 0) hx hb dX7_back_24 (by decide) ?_
  refine lv_aload_n hx hb dX7_back_25 rfl (lv_at hl 0 rfl) ?_
  refine va_get (D := (dC, dI)) (ci := 7) (v := .ref (ad 3)) (C := RX7) (T := TX7) (N := 9) hx hb hts ki7 hown hK hP 0 rfl rfl 0 (by decide) kf9 (fun _ h9 => h9) rfl dX7_back_26 ?_
  refine lv_iconst (v := 0) hx hb dX7_back_29 (by decide) ?_
  refine lv_aload_n hx hb dX7_back_30 rfl (lv_at hl 0 rfl) ?_
  refine va_get (D := (dC, dI)) (ci := 7) (v := .int ((if (2000 : Int32) < (iP 1) then (2000 : Int32) else (iP 1)))) (C := RX7) (T := TX7) (N := 9) hx hb hts ki7 hown hK hP 0 rfl rfl 1 (by decide) kf55 (fun _ h9 => h9) rfl dX7_back_31 ?_
  obtain ⟨gc, h⟩ := g_n h
  obtain ⟨gf, h⟩ := g_p h
  refine va_copyi (f := (aP 0)) (g := tx) hx hb (by rw [hml]; exact hl.1.symm) hown ka1 ka2 ka3 ka4 hK hP hD hS 52 3 1 1 rfl rfl rfl rfl rfl (by decide) (by decide) (fun z => gc (Or.inl z)) (Nat.not_lt.mp (fun z => gc (Or.inr (Or.inl z)))) (Nat.not_lt.mp (fun z => gc (Or.inr (Or.inr z)))) gf (Nat.le_of_ble_eq_true rfl) (Nat.le_of_ble_eq_true rfl) dX7_back_34 (fun H locs hP hD hS => ?_)
  have hP : va_P (dC, dI) vwCl (zzX ad cy rb rc (ad 4) (ad 11) pb (ad 4) (ad 20) (us iX [(1, (if (2000 : Int32) < (iP 1) then (2000 : Int32) else (iP 1)))]) iR iT wT (va_cpy (aP 0) tx ((0 : Int32)).toNatClampNeg ((0 : Int32)).toNatClampNeg ((if (2000 : Int32) < (iP 1) then (2000 : Int32) else (iP 1))).toNatClampNeg) iB lB aB iC aC iD lD aD iE aE iK lK aK iW aW iP aP) H := hP
  have hD : va_D A (zzX ad cy rb rc (ad 4) (ad 11) pb (ad 4) (ad 20) (us iX [(1, (if (2000 : Int32) < (iP 1) then (2000 : Int32) else (iP 1)))]) iR iT wT (va_cpy (aP 0) tx ((0 : Int32)).toNatClampNeg ((0 : Int32)).toNatClampNeg ((if (2000 : Int32) < (iP 1) then (2000 : Int32) else (iP 1))).toNatClampNeg) iB lB aB iC aC iD lD aD iE aE iK lK aK iW aW iP aP) := hD
  refine lv_aload_n hx hb dX7_back_37 rfl (lv_at hl 0 rfl) ?_
  refine va_get (D := (dC, dI)) (ci := 7) (v := .int ((if (2000 : Int32) < (iP 1) then (2000 : Int32) else (iP 1)))) (C := RX7) (T := TX7) (N := 9) hx hb hts ki7 hown hK hP 0 rfl rfl 1 (by decide) kf55 (fun _ h9 => h9) rfl dX7_back_38 ?_
  have h' := Option.some.inj h
  rw [← hQQ]
  exact W.iret (v := (if (2000 : Int32) < (iP 1) then (2000 : Int32) else (iP 1))) hx hb hr (fun t ht hW => ⟨⟨(if (2000 : Int32) < (iP 1) then (2000 : Int32) else (iP 1)), (), rfl, by rw [← h'], by rw [← hWQ, ← h', ht]; exact hP, va_K.moved hW.alike hK⟩, hS.F ht⟩) hS.2.2 dX7_back_41
set_option maxHeartbeats 8000000 in
set_option maxRecDepth 100000 in
theorem c_M_in (l : Launch) (dC : Nat → ClassId) (dI : Nat → Nat → Nat) (cy : Nat → ClassId) (ad : Nat → Nat) (sz : Nat) (a0 : Int64) (a2 : Int64) (a4 : Int64) (q : Int32) (h : f_M_in a0 a2 a4 = some q) : Met l yX8_in wsX8_in ({ frames := 0, cells := 0, slots := 0, locals := 0 } : Room) (cP (dC, dI) cy [.long a0, .long a2, .long a4] (zzE ad cy) sz) (cQi (dC, dI) cy q (zzE ad cy) (va_A (zzE ad cy) sz)) 0 0 (va_A (zzE ad cy) sz) := by
  refine Met.ofW (cc := cX8_in) (maxL := 6) (ret := (some .boolean)) (by decide) rfl ?_
  intro p e s m args below meth c s₁ B hml hv
  obtain ⟨hav, hsz, hP, hK, hD0, hN⟩ := hv
  have hx := B.exec
  have hb := B.bytes
  have hr := B.returns
  have hts := atoms_spec (ws := wsX8_in) B.pre
  have hown : s.vm.findClass RX8 = some m.cls := findClass_of_methodNamed B.named
  have hlocks := B.notSynchronized
  subst hsz
  have hD := hD0.self (sz := s.heap.size)
  generalize hAe : va_A (zzE ad cy) s.heap.size = A at hD ⊢
  have hA : ∀ q : Nat, s.heap.size ≤ q → A q := fun q h => by rw [← hAe]; exact Or.inr h
  have hS : va_S A s.heap s.heap [] := va_S.rf
  generalize hWQ : (zzE ad cy) = WQ
  generalize hQQ : MQ below (cQi (dC, dI) cy q WQ A) args s 0 0 A = QQ
  have hl := lv_entry ([.long a0, .long a2, .long a4] : List Value) (n := 6) (Nat.le_of_ble_eq_true rfl)
  have hfr := lg_entry_eq m ([.long a0, .long a2, .long a4] : List Value) 6
  rw [← hav] at hfr
  rw [hfr]
  clear hfr hav
  generalize (lg_sl ([.long a0, .long a2, .long a4] : List Value) ++ List.replicate (6 - (lg_sl ([.long a0, .long a2, .long a4] : List Value)).length) Slot.unset).toArray = ls at hl ⊢
  have hl : lv_has ls 6 [(0, .long a0), (2, .long a2), (4, .long a4)] := hl
  refine (?_ : ∀ (H : Heap) (locs : List Loc), va_P (dC, dI) vwCl (zzE ad cy) H → va_D A (zzE ad cy) → va_S A s.heap H locs → W p l e ({ frames := 0, cells := 0, slots := 0, locals := 0 } : Room) s m args below meth c H locs 0 0 QQ (F0 m 0 ls [])) s.heap [] hP hD hS
  clear hP hD hS
  intro H locs hP hD hS
  unfold f_M_in at h
  refine lv_lload_n hx hb dX8_in_0 rfl (lv_at hl 0 rfl) ?_
  refine lv_lload_n hx hb dX8_in_1 rfl (lv_at hl 1 rfl) ?_
  refine W.lcmp hx hb dX8_in_2 ?_
  refine lv_if_lt (tgt := 17) hx hb dX8_in_3 (by decide) (fun cz => ?_) (fun cz => ?_)
  · have h := g_t h ((lg_cmp_lt _ _).mp cz)
    refine lv_iconst (v := 0) hx hb dX8_in_17 (by decide) ?_
    have h' := Option.some.inj h
    rw [← hQQ]
    exact W.zret (v := (0 : Int32)) hx hb hr rfl (fun t ht hW => ⟨⟨(0 : Int32), (), rfl, by rw [← h'], by rw [← hWQ, ht]; exact hP, va_K.moved hW.alike hK⟩, hS.F ht⟩) hS.2.2 dX8_in_18
  · have h := g_f h (fun z => cz ((lg_cmp_lt _ _).mpr z))
    refine lv_lload_n hx hb dX8_in_6 rfl (lv_at hl 0 rfl) ?_
    refine lv_lload hx hb dX8_in_7 (lv_at hl 2 rfl) ?_
    refine W.lcmp hx hb dX8_in_9 ?_
    refine lv_if_gt (tgt := 17) hx hb dX8_in_10 (by decide) (fun cz => ?_) (fun cz => ?_)
    · have h := g_t h ((lg_cmp_gt _ _).mp cz)
      refine lv_iconst (v := 0) hx hb dX8_in_17 (by decide) ?_
      have h' := Option.some.inj h
      rw [← hQQ]
      exact W.zret (v := (0 : Int32)) hx hb hr rfl (fun t ht hW => ⟨⟨(0 : Int32), (), rfl, by rw [← h'], by rw [← hWQ, ht]; exact hP, va_K.moved hW.alike hK⟩, hS.F ht⟩) hS.2.2 dX8_in_18
    · have h := g_f h (fun z => cz ((lg_cmp_gt _ _).mpr z))
      refine lv_iconst (v := 1) hx hb dX8_in_13 (by decide) ?_
      refine lv_goto (tgt := 18) hx hb dX8_in_14 (by decide) ?_
      have h' := Option.some.inj h
      rw [← hQQ]
      exact W.zret (v := (1 : Int32)) hx hb hr rfl (fun t ht hW => ⟨⟨(1 : Int32), (), rfl, by rw [← h'], by rw [← hWQ, ht]; exact hP, va_K.moved hW.alike hK⟩, hS.F ht⟩) hS.2.2 dX8_in_18
set_option maxHeartbeats 8000000 in
set_option maxRecDepth 100000 in
theorem c_M_four (l : Launch) (dC : Nat → ClassId) (dI : Nat → Nat → Nat) (cy : Nat → ClassId) (ad : Nat → Nat) (sz : Nat) (N : Nat) (a1 : Int32) (iM : Nat → Int32) (aM : Nat → Nat → Int32) (q : Int32 × (Nat → Int32)) (h : f_M_four N a1 (iM 1) (aM 0) = some q) : Met l yX8_four wsX8_four ({ frames := 0, cells := 0, slots := 0, locals := 0 } : Room) (cP (dC, dI) cy [.ref (ad 0), .int a1] (zzM ad cy iM aM) sz) (cQv (dC, dI) cy (zzM ad cy (us iM [(1, q.1)]) (us aM [(0, q.2)])) (va_A (zzM ad cy iM aM) sz)) 0 0 (va_A (zzM ad cy iM aM) sz) := by
  refine Met.ofW (cc := cX8_four) (maxL := 3) (ret := none) (by decide) rfl ?_
  intro p e s m args below meth c s₁ B hml hv
  obtain ⟨hav, hsz, hP, hK, hD0, hN⟩ := hv
  have hx := B.exec
  have hb := B.bytes
  have hr := B.returns
  have hts := atoms_spec (ws := wsX8_four) B.pre
  have hown : s.vm.findClass RX8 = some m.cls := findClass_of_methodNamed B.named
  have hlocks := B.notSynchronized
  subst hsz
  have hD := hD0.self (sz := s.heap.size)
  generalize hAe : va_A (zzM ad cy iM aM) s.heap.size = A at hD ⊢
  have hA : ∀ q : Nat, s.heap.size ≤ q → A q := fun q h => by rw [← hAe]; exact Or.inr h
  have hS : va_S A s.heap s.heap [] := va_S.rf
  generalize hWQ : (zzM ad cy (us iM [(1, q.1)]) (us aM [(0, q.2)])) = WQ
  generalize hQQ : MQ below (cQv (dC, dI) cy WQ A) args s 0 0 A = QQ
  have hl := lv_entry ([.ref (ad 0), .int a1] : List Value) (n := 3) (Nat.le_of_ble_eq_true rfl)
  have hfr := lg_entry_eq m ([.ref (ad 0), .int a1] : List Value) 3
  rw [← hav] at hfr
  rw [hfr]
  clear hfr hav
  generalize (lg_sl ([.ref (ad 0), .int a1] : List Value) ++ List.replicate (3 - (lg_sl ([.ref (ad 0), .int a1] : List Value)).length) Slot.unset).toArray = ls at hl ⊢
  have hl : lv_has ls 3 [(0, .ref (ad 0)), (1, .int a1)] := hl
  have kf7 := hts _ (List.mem_cons_of_mem _ m_fl_X8_7)
  have ki8 := (fun w h => List.mem_cons_of_mem _ (i_X8 w h) : ∀ w ∈ u_ws RX8 TX8 78, w ∈ wsX8_four)
  have kf147 := hts _ (List.mem_cons_of_mem _ m_fl_X8_147)
  refine (?_ : ∀ (H : Heap) (locs : List Loc), va_P (dC, dI) vwCl (zzM ad cy iM aM) H → va_D A (zzM ad cy iM aM) → va_S A s.heap H locs → W p l e ({ frames := 0, cells := 0, slots := 0, locals := 0 } : Room) s m args below meth c H locs 0 0 QQ (F0 m 0 ls [])) s.heap [] hP hD hS
  clear hP hD hS
  have B2 : ∀ (n : Nat) (v1 : Int32) (v2 : Int32) (x_iM1 : Int32) (x_aM0 : Nat → Int32) (H : Heap) (locs : List Loc) (ls : Array Slot), f_M_four_2 N (iM 1) (aM 0) v1 n v2 x_iM1 x_aM0 = some q → va_P (dC, dI) vwCl (zzM ad cy (us iM [(1, x_iM1)]) (us aM [(0, x_aM0)])) H → va_D A (zzM ad cy (us iM [(1, x_iM1)]) (us aM [(0, x_aM0)])) → va_S A s.heap H locs → lv_has ls 3 [(0, .ref (ad 0)), (1, .int v1), (2, .int v2)] → W p l e ({ frames := 0, cells := 0, slots := 0, locals := 0 } : Room) s m args below meth c H locs 0 0 QQ (F0 m 2 ls []) := by
    intro n
    induction n with
    | zero =>
      intro v1 v2 x_iM1 x_aM0 H locs ls h hP hD hS hl
      rw [f_M_four_2] at h
      cases h
    | succ n ih =>
      intro v1 v2 x_iM1 x_aM0 H locs ls h hP hD hS hl
      rw [f_M_four_2] at h
      refine lv_iload_n hx hb dX8_four_2 rfl (lv_at hl 2 rfl) ?_
      refine lv_if_lt (tgt := 38) hx hb dX8_four_3 (by decide) (fun cz => ?_) (fun cz => ?_)
      · have h := g_t h cz
        have h' := Option.some.inj h
        rw [← hQQ]
        exact W.vret hx hb hr (fun t ht hW => ⟨⟨(), rfl, trivial, by rw [← hWQ, ← h', ht]; exact hP, va_K.moved hW.alike hK⟩, hS.F ht⟩) hS.2.2 dX8_four_38
      · have h := g_f h cz
        refine lv_aload_n hx hb dX8_four_6 rfl (lv_at hl 0 rfl) ?_
        refine va_get (D := (dC, dI)) (ci := 8) (v := .ref (ad 1)) (C := RX8) (T := TX8) (N := 78) hx hb hts ki8 hown hK hP 0 rfl rfl 0 (by decide) kf7 (fun _ h9 => h9) rfl dX8_four_7 ?_
        refine lv_aload_n hx hb dX8_four_10 rfl (lv_at hl 0 rfl) ?_
        refine va_get (D := (dC, dI)) (ci := 8) (v := .int x_iM1) (C := RX8) (T := TX8) (N := 78) hx hb hts ki8 hown hK hP 0 rfl rfl 1 (by decide) kf147 (fun _ h9 => h9) rfl dX8_four_11 ?_
        refine lv_iload_n hx hb dX8_four_14 rfl (lv_at hl 1 rfl) ?_
        refine lv_bipush (v := 8) hx hb dX8_four_15 (by decide) ?_
        refine lv_iload_n hx hb dX8_four_17 rfl (lv_at hl 2 rfl) ?_
        refine lv_imul hx hb dX8_four_18 ?_
        refine lv_ishr hx hb dX8_four_19 ?_
        refine lv_i2b (v := ((v1 >>> (((8 : Int32) * v2) &&& 31))).toInt8.toInt32) hx hb dX8_four_20 rfl ?_
        obtain ⟨g_47, h⟩ := g_n h
        refine va_bast (f := x_aM0) hx hb hK hP hD hS 1 1 rfl rfl g_47 dX8_four_21 (fun H locs hP hD hS => ?_)
        have hP : va_P (dC, dI) vwCl (zzM ad cy (us iM [(1, x_iM1)]) (us aM [(0, (upd x_aM0 x_iM1.toNatClampNeg (vp_nar .byte (((v1 >>> (((8 : Int32) * v2) &&& 31))).toInt8.toInt32))))])) H := Eq.mp (congrArg (fun w => va_P (dC, dI) vwCl w H) (stM_aM0 ad cy (us iM [(1, x_iM1)]) aM [(0, x_aM0)] ((upd x_aM0 x_iM1.toNatClampNeg (vp_nar .byte (((v1 >>> (((8 : Int32) * v2) &&& 31))).toInt8.toInt32)))))) hP
        have hD : va_D A (zzM ad cy (us iM [(1, x_iM1)]) (us aM [(0, (upd x_aM0 x_iM1.toNatClampNeg (vp_nar .byte (((v1 >>> (((8 : Int32) * v2) &&& 31))).toInt8.toInt32))))])) := Eq.mp (congrArg (fun w => va_D A w) (stM_aM0 ad cy (us iM [(1, x_iM1)]) aM [(0, x_aM0)] ((upd x_aM0 x_iM1.toNatClampNeg (vp_nar .byte (((v1 >>> (((8 : Int32) * v2) &&& 31))).toInt8.toInt32)))))) hD
        refine lv_aload_n hx hb dX8_four_22 rfl (lv_at hl 0 rfl) ?_
        refine lv_dup hx hb dX8_four_23 rfl ?_
        refine va_get (D := (dC, dI)) (ci := 8) (v := .int x_iM1) (C := RX8) (T := TX8) (N := 78) hx hb hts ki8 hown hK hP 0 rfl rfl 1 (by decide) kf147 (fun _ h9 => h9) rfl dX8_four_24 ?_
        refine lv_iconst (v := 1) hx hb dX8_four_27 (by decide) ?_
        refine lv_iadd hx hb dX8_four_28 ?_
        refine va_put (D := (dC, dI)) (ci := 8) (v := .int ((x_iM1 + (1 : Int32)))) (ty := .int) (C := RX8) (T := TX8) (N := 78) hx hb hts ki8 tyX8 tyX8_ok nmX8 hown hK hP hD hS 0 rfl rfl 1 (by decide) kf147 (fun _ h9 => h9) rfl (by decide +kernel) rfl rfl (Nat.le_of_ble_eq_true rfl) dX8_four_29 (fun H locs hP hD hS => ?_)
        have hP : va_P (dC, dI) vwCl (zzM ad cy (us iM [(1, (x_iM1 + (1 : Int32)))]) (us aM [(0, (upd x_aM0 x_iM1.toNatClampNeg (vp_nar .byte (((v1 >>> (((8 : Int32) * v2) &&& 31))).toInt8.toInt32))))])) H := Eq.mp (congrArg (fun w => va_P (dC, dI) vwCl w H) (stM_iM1 ad cy iM (us aM [(0, (upd x_aM0 x_iM1.toNatClampNeg (vp_nar .byte (((v1 >>> (((8 : Int32) * v2) &&& 31))).toInt8.toInt32))))]) [(1, x_iM1)] ((x_iM1 + (1 : Int32))))) hP
        have hD : va_D A (zzM ad cy (us iM [(1, (x_iM1 + (1 : Int32)))]) (us aM [(0, (upd x_aM0 x_iM1.toNatClampNeg (vp_nar .byte (((v1 >>> (((8 : Int32) * v2) &&& 31))).toInt8.toInt32))))])) := Eq.mp (congrArg (fun w => va_D A w) (stM_iM1 ad cy iM (us aM [(0, (upd x_aM0 x_iM1.toNatClampNeg (vp_nar .byte (((v1 >>> (((8 : Int32) * v2) &&& 31))).toInt8.toInt32))))]) [(1, x_iM1)] ((x_iM1 + (1 : Int32))))) hD
        refine lv_iinc (v := (v2 + (-1 : Int32))) (lv' := [(2, .int ((v2 + (-1 : Int32)))), (0, .ref (ad 0)), (1, .int v1)]) hx hb dX8_four_32 hl (k := 2) rfl rfl (by decide) rfl (fun ls hl => ?_)
        refine lv_goto (tgt := 2) hx hb dX8_four_35 (by decide) ?_
        exact ih v1 ((v2 + (-1 : Int32))) ((x_iM1 + (1 : Int32))) ((upd x_aM0 x_iM1.toNatClampNeg (vp_nar .byte (((v1 >>> (((8 : Int32) * v2) &&& 31))).toInt8.toInt32)))) H locs ls h hP hD hS (lv_sub hl [1, 2, 0] rfl)
  intro H locs hP hD hS
  unfold f_M_four at h
  refine lv_iconst (v := 3) hx hb dX8_four_0 (by decide) ?_
  refine lv_istore_n (lv' := [(2, .int ((3 : Int32))), (0, .ref (ad 0)), (1, .int a1)]) hx hb dX8_four_1 rfl hl (by decide) rfl (fun ls hl => ?_)
  exact B2 N a1 ((3 : Int32)) (iM 1) (aM 0) H locs ls h hP hD hS (lv_sub hl [1, 2, 0] rfl)
set_option maxHeartbeats 8000000 in
set_option maxRecDepth 100000 in
theorem c_M_feed (l : Launch) (dC : Nat → ClassId) (dI : Nat → Nat → Nat) (cy : Nat → ClassId) (ad : Nat → Nat) (sz : Nat) (N : Nat) (a1 : Int32) (a2 : Int32) (a3 : Int32) (a4 : Int32) (a5 : Int32) (iM : Nat → Int32) (aM : Nat → Nat → Int32) (q : Int32 × Int32 × (Nat → Int32)) (h : f_M_feed N a1 a2 a3 a4 a5 (iM 1) (aM 0) = some q) : Met l yX8_feed wsX8_feed ({ frames := 1, cells := 0, slots := 0, locals := 22 } : Room) (cP (dC, dI) cy [.ref (ad 0), .int a1, .int a2, .int a3, .int a4, .int a5] (zzM ad cy iM aM) sz) (cQi (dC, dI) cy q.1 (zzM ad cy (us iM [(1, q.2.1)]) (us aM [(0, q.2.2)])) (va_A (zzM ad cy iM aM) sz)) 0 0 (va_A (zzM ad cy iM aM) sz) := by
  refine Met.ofW (cc := cX8_feed) (maxL := 6) (ret := (some .int)) (by decide) rfl ?_
  intro p e s m args below meth c s₁ B hml hv
  obtain ⟨hav, hsz, hP, hK, hD0, hN⟩ := hv
  have hx := B.exec
  have hb := B.bytes
  have hr := B.returns
  have hts := atoms_spec (ws := wsX8_feed) B.pre
  have hown : s.vm.findClass RX8 = some m.cls := findClass_of_methodNamed B.named
  have hlocks := B.notSynchronized
  subst hsz
  have hD := hD0.self (sz := s.heap.size)
  generalize hAe : va_A (zzM ad cy iM aM) s.heap.size = A at hD ⊢
  have hA : ∀ q : Nat, s.heap.size ≤ q → A q := fun q h => by rw [← hAe]; exact Or.inr h
  have hS : va_S A s.heap s.heap [] := va_S.rf
  generalize hWQ : (zzM ad cy (us iM [(1, q.2.1)]) (us aM [(0, q.2.2)])) = WQ
  generalize hQQ : MQ below (cQi (dC, dI) cy q.1 WQ A) args s 0 0 A = QQ
  have hl := lv_entry ([.ref (ad 0), .int a1, .int a2, .int a3, .int a4, .int a5] : List Value) (n := 6) (Nat.le_of_ble_eq_true rfl)
  have hfr := lg_entry_eq m ([.ref (ad 0), .int a1, .int a2, .int a3, .int a4, .int a5] : List Value) 6
  rw [← hav] at hfr
  rw [hfr]
  clear hfr hav
  generalize (lg_sl ([.ref (ad 0), .int a1, .int a2, .int a3, .int a4, .int a5] : List Value) ++ List.replicate (6 - (lg_sl ([.ref (ad 0), .int a1, .int a2, .int a3, .int a4, .int a5] : List Value)).length) Slot.unset).toArray = ls at hl ⊢
  have hl : lv_has ls 6 [(0, .ref (ad 0)), (1, .int a1), (2, .int a2), (3, .int a3), (4, .int a4), (5, .int a5)] := hl
  have kf147 := hts _ (List.mem_cons_of_mem _ m_fl_X8_147)
  have ki8 := (fun w h => List.mem_cons_of_mem _ (i_X8 w h) : ∀ w ∈ u_ws RX8 TX8 78, w ∈ wsX8_feed)
  refine (?_ : ∀ (H : Heap) (locs : List Loc), va_P (dC, dI) vwCl (zzM ad cy iM aM) H → va_D A (zzM ad cy iM aM) → va_S A s.heap H locs → W p l e ({ frames := 1, cells := 0, slots := 0, locals := 22 } : Room) s m args below meth c H locs 0 0 QQ (F0 m 0 ls [])) s.heap [] hP hD hS
  clear hP hD hS
  intro H locs hP hD hS
  unfold f_M_feed at h
  refine lv_aload_n hx hb dX8_feed_0 rfl (lv_at hl 0 rfl) ?_
  refine va_get (D := (dC, dI)) (ci := 8) (v := .int (iM 1)) (C := RX8) (T := TX8) (N := 78) hx hb hts ki8 hown hK hP 0 rfl rfl 1 (by decide) kf147 (fun _ h9 => h9) rfl dX8_feed_1 ?_
  refine lv_bipush (v := 20) hx hb dX8_feed_4 (by decide) ?_
  refine lv_iadd hx hb dX8_feed_6 ?_
  refine lv_sipush (v := 2000) hx hb dX8_feed_7 (by decide) ?_
  refine lv_icmp_le (tgt := 16) hx hb dX8_feed_10 (by decide) (fun cz => ?_) (fun cz => ?_)
  · have h := g_t h cz
    refine lv_aload_n hx hb dX8_feed_16 rfl (lv_at hl 0 rfl) ?_
    refine lv_iload_n hx hb dX8_feed_17 rfl (lv_at hl 1 rfl) ?_
    obtain ⟨q18, e18, h⟩ := g_b h
    refine callVvs (cc := cX8_feed) (w1 := zzM ad cy (us iM [(1, q18.1)]) (us aM [(0, q18.2)])) (As := [.int a1]) (rest := []) ⟨hx, hb, hml, hown, hts⟩ (c_M_four l dC dI cy ad H.size N a1 iM aM q18 e18) (cwV 1 hts (goodV m_ml_X8_150 m_im_X8_four m_se_X8_four m_in_X8 m_cd_X8_four) rfl rfl rfl (by decide +kernel) ⟨Nat.le_of_ble_eq_true rfl, Nat.le_of_ble_eq_true rfl⟩) hN hK hP hD hS hA rfl 0 rfl rfl rfl hl.1 rfl (Nat.le_of_ble_eq_true rfl) dX8_feed_18 ⟨Nat.zero_le _, Nat.zero_le _⟩ (fun H locs hP hD hS => ?_)
    refine lv_aload_n hx hb dX8_feed_21 rfl (lv_at hl 0 rfl) ?_
    refine lv_iload_n hx hb dX8_feed_22 rfl (lv_at hl 2 rfl) ?_
    obtain ⟨q23, e23, h⟩ := g_b h
    refine callVvs (cc := cX8_feed) (w1 := zzM ad cy (us iM [(1, q23.1)]) (us aM [(0, q23.2)])) (As := [.int a2]) (rest := []) ⟨hx, hb, hml, hown, hts⟩ (c_M_four l dC dI cy ad H.size N a2 ((us iM [(1, q18.1)])) ((us aM [(0, q18.2)])) q23 e23) (cwV 1 hts (goodV m_ml_X8_150 m_im_X8_four m_se_X8_four m_in_X8 m_cd_X8_four) rfl rfl rfl (by decide +kernel) ⟨Nat.le_of_ble_eq_true rfl, Nat.le_of_ble_eq_true rfl⟩) hN hK hP hD hS hA rfl 0 rfl rfl rfl hl.1 rfl (Nat.le_of_ble_eq_true rfl) dX8_feed_23 ⟨Nat.zero_le _, Nat.zero_le _⟩ (fun H locs hP hD hS => ?_)
    refine lv_aload_n hx hb dX8_feed_26 rfl (lv_at hl 0 rfl) ?_
    refine lv_iload_n hx hb dX8_feed_27 rfl (lv_at hl 3 rfl) ?_
    obtain ⟨q28, e28, h⟩ := g_b h
    refine callVvs (cc := cX8_feed) (w1 := zzM ad cy (us iM [(1, q28.1)]) (us aM [(0, q28.2)])) (As := [.int a3]) (rest := []) ⟨hx, hb, hml, hown, hts⟩ (c_M_four l dC dI cy ad H.size N a3 ((us iM [(1, q23.1)])) ((us aM [(0, q23.2)])) q28 e28) (cwV 1 hts (goodV m_ml_X8_150 m_im_X8_four m_se_X8_four m_in_X8 m_cd_X8_four) rfl rfl rfl (by decide +kernel) ⟨Nat.le_of_ble_eq_true rfl, Nat.le_of_ble_eq_true rfl⟩) hN hK hP hD hS hA rfl 0 rfl rfl rfl hl.1 rfl (Nat.le_of_ble_eq_true rfl) dX8_feed_28 ⟨Nat.zero_le _, Nat.zero_le _⟩ (fun H locs hP hD hS => ?_)
    refine lv_aload_n hx hb dX8_feed_31 rfl (lv_at hl 0 rfl) ?_
    refine lv_iload hx hb dX8_feed_32 (lv_at hl 4 rfl) ?_
    obtain ⟨q34, e34, h⟩ := g_b h
    refine callVvs (cc := cX8_feed) (w1 := zzM ad cy (us iM [(1, q34.1)]) (us aM [(0, q34.2)])) (As := [.int a4]) (rest := []) ⟨hx, hb, hml, hown, hts⟩ (c_M_four l dC dI cy ad H.size N a4 ((us iM [(1, q28.1)])) ((us aM [(0, q28.2)])) q34 e34) (cwV 1 hts (goodV m_ml_X8_150 m_im_X8_four m_se_X8_four m_in_X8 m_cd_X8_four) rfl rfl rfl (by decide +kernel) ⟨Nat.le_of_ble_eq_true rfl, Nat.le_of_ble_eq_true rfl⟩) hN hK hP hD hS hA rfl 0 rfl rfl rfl hl.1 rfl (Nat.le_of_ble_eq_true rfl) dX8_feed_34 ⟨Nat.zero_le _, Nat.zero_le _⟩ (fun H locs hP hD hS => ?_)
    refine lv_aload_n hx hb dX8_feed_37 rfl (lv_at hl 0 rfl) ?_
    refine lv_iload hx hb dX8_feed_38 (lv_at hl 5 rfl) ?_
    obtain ⟨q40, e40, h⟩ := g_b h
    refine callVvs (cc := cX8_feed) (w1 := zzM ad cy (us iM [(1, q40.1)]) (us aM [(0, q40.2)])) (As := [.int a5]) (rest := []) ⟨hx, hb, hml, hown, hts⟩ (c_M_four l dC dI cy ad H.size N a5 ((us iM [(1, q34.1)])) ((us aM [(0, q34.2)])) q40 e40) (cwV 1 hts (goodV m_ml_X8_150 m_im_X8_four m_se_X8_four m_in_X8 m_cd_X8_four) rfl rfl rfl (by decide +kernel) ⟨Nat.le_of_ble_eq_true rfl, Nat.le_of_ble_eq_true rfl⟩) hN hK hP hD hS hA rfl 0 rfl rfl rfl hl.1 rfl (Nat.le_of_ble_eq_true rfl) dX8_feed_40 ⟨Nat.zero_le _, Nat.zero_le _⟩ (fun H locs hP hD hS => ?_)
    refine lv_aload_n hx hb dX8_feed_43 rfl (lv_at hl 0 rfl) ?_
    refine va_get (D := (dC, dI)) (ci := 8) (v := .int q40.1) (C := RX8) (T := TX8) (N := 78) hx hb hts ki8 hown hK hP 0 rfl rfl 1 (by decide) kf147 (fun _ h9 => h9) rfl dX8_feed_44 ?_
    have h' := Option.some.inj h
    rw [← hQQ]
    exact W.iret (v := q40.1) hx hb hr (fun t ht hW => ⟨⟨q40.1, (), rfl, by rw [← h'], by rw [← hWQ, ← h', ht]; exact hP, va_K.moved hW.alike hK⟩, hS.F ht⟩) hS.2.2 dX8_feed_47
  · have h := g_f h cz
    refine lv_bipush (v := (-104)) hx hb dX8_feed_13 (by decide) ?_
    have h' := Option.some.inj h
    rw [← hQQ]
    exact W.iret (v := (-104 : Int32)) hx hb hr (fun t ht hW => ⟨⟨(-104 : Int32), (), rfl, by rw [← h'], by rw [← hWQ, ← h', ht]; exact hP, va_K.moved hW.alike hK⟩, hS.F ht⟩) hS.2.2 dX8_feed_15
set_option maxHeartbeats 8000000 in
set_option maxRecDepth 100000 in
theorem c_M_cut (l : Launch) (dC : Nat → ClassId) (dI : Nat → Nat → Nat) (cy : Nat → ClassId) (ad : Nat → Nat) (sz : Nat) (a1 : Int32) (iM : Nat → Int32) (aM : Nat → Nat → Int32) (q : Int32 × Int32) (h : f_M_cut a1 (iM 1) = some q) : Met l yX8_cut wsX8_cut ({ frames := 1, cells := 0, slots := 0, locals := 25 } : Room) (cP (dC, dI) cy [.ref (ad 0), .int a1] (zzM ad cy iM aM) sz) (cQi (dC, dI) cy q.1 (zzM ad cy (us iM [(1, q.2)]) aM) (va_A (zzM ad cy iM aM) sz)) 0 0 (va_A (zzM ad cy iM aM) sz) := by
  refine Met.ofW (cc := cX8_cut) (maxL := 3) (ret := (some .int)) (by decide) rfl ?_
  intro p e s m args below meth c s₁ B hml hv
  obtain ⟨hav, hsz, hP, hK, hD0, hN⟩ := hv
  have hx := B.exec
  have hb := B.bytes
  have hr := B.returns
  have hts := atoms_spec (ws := wsX8_cut) B.pre
  have hown : s.vm.findClass RX8 = some m.cls := findClass_of_methodNamed B.named
  have hlocks := B.notSynchronized
  subst hsz
  have hD := hD0.self (sz := s.heap.size)
  generalize hAe : va_A (zzM ad cy iM aM) s.heap.size = A at hD ⊢
  have hA : ∀ q : Nat, s.heap.size ≤ q → A q := fun q h => by rw [← hAe]; exact Or.inr h
  have hS : va_S A s.heap s.heap [] := va_S.rf
  generalize hWQ : (zzM ad cy (us iM [(1, q.2)]) aM) = WQ
  generalize hQQ : MQ below (cQi (dC, dI) cy q.1 WQ A) args s 0 0 A = QQ
  have hl := lv_entry ([.ref (ad 0), .int a1] : List Value) (n := 3) (Nat.le_of_ble_eq_true rfl)
  have hfr := lg_entry_eq m ([.ref (ad 0), .int a1] : List Value) 3
  rw [← hav] at hfr
  rw [hfr]
  clear hfr hav
  generalize (lg_sl ([.ref (ad 0), .int a1] : List Value) ++ List.replicate (3 - (lg_sl ([.ref (ad 0), .int a1] : List Value)).length) Slot.unset).toArray = ls at hl ⊢
  have hl : lv_has ls 3 [(0, .ref (ad 0)), (1, .int a1)] := hl
  have kf147 := hts _ (List.mem_cons_of_mem _ m_fl_X8_147)
  have ki8 := (fun w h => List.mem_cons_of_mem _ (i_X8 w h) : ∀ w ∈ u_ws RX8 TX8 78, w ∈ wsX8_cut)
  refine (?_ : ∀ (H : Heap) (locs : List Loc), va_P (dC, dI) vwCl (zzM ad cy iM aM) H → va_D A (zzM ad cy iM aM) → va_S A s.heap H locs → W p l e ({ frames := 1, cells := 0, slots := 0, locals := 25 } : Room) s m args below meth c H locs 0 0 QQ (F0 m 0 ls [])) s.heap [] hP hD hS
  clear hP hD hS
  intro H locs hP hD hS
  unfold f_M_cut at h
  refine lv_iload_n hx hb dX8_cut_0 rfl (lv_at hl 1 rfl) ?_
  refine lv_i2l (v := (a1).toInt64) hx hb dX8_cut_1 rfl ?_
  refine lv_lconst (v := 0) hx hb dX8_cut_2 (by decide) ?_
  refine lv_aload_n hx hb dX8_cut_3 rfl (lv_at hl 0 rfl) ?_
  refine va_get (D := (dC, dI)) (ci := 8) (v := .int (iM 1)) (C := RX8) (T := TX8) (N := 78) hx hb hts ki8 hown hK hP 0 rfl rfl 1 (by decide) kf147 (fun _ h9 => h9) rfl dX8_cut_4 ?_
  refine lv_i2l (v := ((iM 1)).toInt64) hx hb dX8_cut_7 rfl ?_
  obtain ⟨q8, e8, h⟩ := g_b h
  refine callSi (cc := cX8_cut) (ws' := zzM ad cy iM aM) (As := [.long (a1).toInt64, .long ((0 : Int64)), .long ((iM 1)).toInt64]) (rest := []) ⟨hx, hb, hml, hown, hts⟩ (c_M_in l dC dI cy ad H.size (a1).toInt64 ((0 : Int64)) ((iM 1)).toInt64 q8 e8) (va_cwS 3 hts (goodS m_ml_X8_154 m_st_X8_in m_in_X8 m_cd_X8_in) rfl rfl rfl (by decide +kernel) ⟨Nat.le_of_ble_eq_true rfl, Nat.le_of_ble_eq_true rfl⟩) hN hK hP hD hS hA [] [none, none, none, none, none, none, none, none, none, none, none, none, none, none, none, none, none, none, none, none, none, none, none, none, none, none, none, none, none, none, none, none, none, none, none, none, none, none, none, none, none, none, none, none] rfl rfl rfl rfl rfl rfl rfl hl.1 rfl (Nat.le_of_ble_eq_true rfl) dX8_cut_8 ⟨Nat.zero_le _, Nat.zero_le _⟩ (fun H locs hP hD hS => ?_)
  refine lv_if_ne (tgt := 17) hx hb dX8_cut_11 (by decide) (fun cz => ?_) (fun cz => ?_)
  · have h := g_f h cz
    refine lv_aload_n hx hb dX8_cut_17 rfl (lv_at hl 0 rfl) ?_
    refine va_get (D := (dC, dI)) (ci := 8) (v := .int (iM 1)) (C := RX8) (T := TX8) (N := 78) hx hb hts ki8 hown hK hP 0 rfl rfl 1 (by decide) kf147 (fun _ h9 => h9) rfl dX8_cut_18 ?_
    refine lv_iload_n hx hb dX8_cut_21 rfl (lv_at hl 1 rfl) ?_
    refine lv_isub hx hb dX8_cut_22 ?_
    refine lv_istore_n (lv' := [(2, .int (((iM 1) - a1))), (0, .ref (ad 0)), (1, .int a1)]) hx hb dX8_cut_23 rfl hl (by decide) rfl (fun ls hl => ?_)
    refine lv_aload_n hx hb dX8_cut_24 rfl (lv_at hl 1 rfl) ?_
    refine lv_iload_n hx hb dX8_cut_25 rfl (lv_at hl 2 rfl) ?_
    refine va_put (D := (dC, dI)) (ci := 8) (v := .int a1) (ty := .int) (C := RX8) (T := TX8) (N := 78) hx hb hts ki8 tyX8 tyX8_ok nmX8 hown hK hP hD hS 0 rfl rfl 1 (by decide) kf147 (fun _ h9 => h9) rfl (by decide +kernel) rfl rfl (Nat.le_of_ble_eq_true rfl) dX8_cut_26 (fun H locs hP hD hS => ?_)
    have hP : va_P (dC, dI) vwCl (zzM ad cy (us iM [(1, a1)]) aM) H := Eq.mp (congrArg (fun w => va_P (dC, dI) vwCl w H) (sfM_iM1 ad cy iM aM a1)) hP
    have hD : va_D A (zzM ad cy (us iM [(1, a1)]) aM) := Eq.mp (congrArg (fun w => va_D A w) (sfM_iM1 ad cy iM aM a1)) hD
    refine lv_iload_n hx hb dX8_cut_29 rfl (lv_at hl 0 rfl) ?_
    have h' := Option.some.inj h
    rw [← hQQ]
    exact W.iret (v := ((iM 1) - a1)) hx hb hr (fun t ht hW => ⟨⟨((iM 1) - a1), (), rfl, by rw [← h'], by rw [← hWQ, ← h', ht]; exact hP, va_K.moved hW.alike hK⟩, hS.F ht⟩) hS.2.2 dX8_cut_30
  · have h := g_t h cz
    refine lv_bipush (v := (-103)) hx hb dX8_cut_14 (by decide) ?_
    have h' := Option.some.inj h
    rw [← hQQ]
    exact W.iret (v := (-103 : Int32)) hx hb hr (fun t ht hW => ⟨⟨(-103 : Int32), (), rfl, by rw [← h'], by rw [← hWQ, ← h', ht]; exact hP, va_K.moved hW.alike hK⟩, hS.F ht⟩) hS.2.2 dX8_cut_16
set_option maxHeartbeats 8000000 in
set_option maxRecDepth 100000 in
theorem c_M_isLetter (l : Launch) (dC : Nat → ClassId) (dI : Nat → Nat → Nat) (cy : Nat → ClassId) (ad : Nat → Nat) (sz : Nat) (a0 : Int32) (q : Int32) (h : f_M_isLetter a0 = some q) : Met l yX8_isLetter wsX8_isLetter ({ frames := 1, cells := 0, slots := 0, locals := 25 } : Room) (cP (dC, dI) cy [.int a0] (zzE ad cy) sz) (cQi (dC, dI) cy q (zzE ad cy) (va_A (zzE ad cy) sz)) 0 0 (va_A (zzE ad cy) sz) := by
  refine Met.ofW (cc := cX8_isLetter) (maxL := 1) (ret := (some .boolean)) (by decide) rfl ?_
  intro p e s m args below meth c s₁ B hml hv
  obtain ⟨hav, hsz, hP, hK, hD0, hN⟩ := hv
  have hx := B.exec
  have hb := B.bytes
  have hr := B.returns
  have hts := atoms_spec (ws := wsX8_isLetter) B.pre
  have hown : s.vm.findClass RX8 = some m.cls := findClass_of_methodNamed B.named
  have hlocks := B.notSynchronized
  subst hsz
  have hD := hD0.self (sz := s.heap.size)
  generalize hAe : va_A (zzE ad cy) s.heap.size = A at hD ⊢
  have hA : ∀ q : Nat, s.heap.size ≤ q → A q := fun q h => by rw [← hAe]; exact Or.inr h
  have hS : va_S A s.heap s.heap [] := va_S.rf
  generalize hWQ : (zzE ad cy) = WQ
  generalize hQQ : MQ below (cQi (dC, dI) cy q WQ A) args s 0 0 A = QQ
  have hl := lv_entry ([.int a0] : List Value) (n := 1) (Nat.le_of_ble_eq_true rfl)
  have hfr := lg_entry_eq m ([.int a0] : List Value) 1
  rw [← hav] at hfr
  rw [hfr]
  clear hfr hav
  generalize (lg_sl ([.int a0] : List Value) ++ List.replicate (1 - (lg_sl ([.int a0] : List Value)).length) Slot.unset).toArray = ls at hl ⊢
  have hl : lv_has ls 1 [(0, .int a0)] := hl
  have kc158 := hts _ (List.mem_cons_of_mem _ m_kl_X8_158)
  have kc160 := hts _ (List.mem_cons_of_mem _ m_kl_X8_160)
  refine (?_ : ∀ (H : Heap) (locs : List Loc), va_P (dC, dI) vwCl (zzE ad cy) H → va_D A (zzE ad cy) → va_S A s.heap H locs → W p l e ({ frames := 1, cells := 0, slots := 0, locals := 25 } : Room) s m args below meth c H locs 0 0 QQ (F0 m 0 ls [])) s.heap [] hP hD hS
  clear hP hD hS
  intro H locs hP hD hS
  unfold f_M_isLetter at h
  refine lv_iload_n hx hb dX8_isLetter_0 rfl (lv_at hl 0 rfl) ?_
  refine lv_i2l (v := (a0).toInt64) hx hb dX8_isLetter_1 rfl ?_
  refine lv_ldc2 (v := 97) hx hb hown kc158 dX8_isLetter_2 ?_
  refine lv_ldc2 (v := 122) hx hb hown kc160 dX8_isLetter_5 ?_
  obtain ⟨q8, e8, h⟩ := g_b h
  refine callSis (cc := cX8_isLetter) (w1 := zzE ad cy) (As := [.long (a0).toInt64, .long ((97 : Int64)), .long ((122 : Int64))]) (rest := []) ⟨hx, hb, hml, hown, hts⟩ (c_M_in l dC dI cy ad H.size (a0).toInt64 ((97 : Int64)) ((122 : Int64)) q8 e8) (va_cwS 3 hts (goodS m_ml_X8_154 m_st_X8_in m_in_X8 m_cd_X8_in) rfl rfl rfl (by decide +kernel) ⟨Nat.le_of_ble_eq_true rfl, Nat.le_of_ble_eq_true rfl⟩) hN hK hP hD hS hA rfl rfl hl.1 rfl (Nat.le_of_ble_eq_true rfl) dX8_isLetter_8 ⟨Nat.zero_le _, Nat.zero_le _⟩ (fun H locs hP hD hS => ?_)
  obtain ⟨gz, h⟩ := g_p h
  have h' := Option.some.inj h
  rw [← hQQ]
  exact W.zret (v := q8) hx hb hr (g_zr _ gz) (fun t ht hW => ⟨⟨q8, (), rfl, by rw [← h'], by rw [← hWQ, ht]; exact hP, va_K.moved hW.alike hK⟩, hS.F ht⟩) hS.2.2 dX8_isLetter_11
set_option maxHeartbeats 8000000 in
set_option maxRecDepth 100000 in
theorem c_M_isFigure (l : Launch) (dC : Nat → ClassId) (dI : Nat → Nat → Nat) (cy : Nat → ClassId) (ad : Nat → Nat) (sz : Nat) (a0 : Int32) (q : Int32) (h : f_M_isFigure a0 = some q) : Met l yX8_isFigure wsX8_isFigure ({ frames := 1, cells := 0, slots := 0, locals := 25 } : Room) (cP (dC, dI) cy [.int a0] (zzE ad cy) sz) (cQi (dC, dI) cy q (zzE ad cy) (va_A (zzE ad cy) sz)) 0 0 (va_A (zzE ad cy) sz) := by
  refine Met.ofW (cc := cX8_isFigure) (maxL := 1) (ret := (some .boolean)) (by decide) rfl ?_
  intro p e s m args below meth c s₁ B hml hv
  obtain ⟨hav, hsz, hP, hK, hD0, hN⟩ := hv
  have hx := B.exec
  have hb := B.bytes
  have hr := B.returns
  have hts := atoms_spec (ws := wsX8_isFigure) B.pre
  have hown : s.vm.findClass RX8 = some m.cls := findClass_of_methodNamed B.named
  have hlocks := B.notSynchronized
  subst hsz
  have hD := hD0.self (sz := s.heap.size)
  generalize hAe : va_A (zzE ad cy) s.heap.size = A at hD ⊢
  have hA : ∀ q : Nat, s.heap.size ≤ q → A q := fun q h => by rw [← hAe]; exact Or.inr h
  have hS : va_S A s.heap s.heap [] := va_S.rf
  generalize hWQ : (zzE ad cy) = WQ
  generalize hQQ : MQ below (cQi (dC, dI) cy q WQ A) args s 0 0 A = QQ
  have hl := lv_entry ([.int a0] : List Value) (n := 1) (Nat.le_of_ble_eq_true rfl)
  have hfr := lg_entry_eq m ([.int a0] : List Value) 1
  rw [← hav] at hfr
  rw [hfr]
  clear hfr hav
  generalize (lg_sl ([.int a0] : List Value) ++ List.replicate (1 - (lg_sl ([.int a0] : List Value)).length) Slot.unset).toArray = ls at hl ⊢
  have hl : lv_has ls 1 [(0, .int a0)] := hl
  have kc162 := hts _ (List.mem_cons_of_mem _ m_kl_X8_162)
  have kc164 := hts _ (List.mem_cons_of_mem _ m_kl_X8_164)
  refine (?_ : ∀ (H : Heap) (locs : List Loc), va_P (dC, dI) vwCl (zzE ad cy) H → va_D A (zzE ad cy) → va_S A s.heap H locs → W p l e ({ frames := 1, cells := 0, slots := 0, locals := 25 } : Room) s m args below meth c H locs 0 0 QQ (F0 m 0 ls [])) s.heap [] hP hD hS
  clear hP hD hS
  intro H locs hP hD hS
  unfold f_M_isFigure at h
  refine lv_iload_n hx hb dX8_isFigure_0 rfl (lv_at hl 0 rfl) ?_
  refine lv_i2l (v := (a0).toInt64) hx hb dX8_isFigure_1 rfl ?_
  refine lv_ldc2 (v := 48) hx hb hown kc162 dX8_isFigure_2 ?_
  refine lv_ldc2 (v := 57) hx hb hown kc164 dX8_isFigure_5 ?_
  obtain ⟨q8, e8, h⟩ := g_b h
  refine callSis (cc := cX8_isFigure) (w1 := zzE ad cy) (As := [.long (a0).toInt64, .long ((48 : Int64)), .long ((57 : Int64))]) (rest := []) ⟨hx, hb, hml, hown, hts⟩ (c_M_in l dC dI cy ad H.size (a0).toInt64 ((48 : Int64)) ((57 : Int64)) q8 e8) (va_cwS 3 hts (goodS m_ml_X8_154 m_st_X8_in m_in_X8 m_cd_X8_in) rfl rfl rfl (by decide +kernel) ⟨Nat.le_of_ble_eq_true rfl, Nat.le_of_ble_eq_true rfl⟩) hN hK hP hD hS hA rfl rfl hl.1 rfl (Nat.le_of_ble_eq_true rfl) dX8_isFigure_8 ⟨Nat.zero_le _, Nat.zero_le _⟩ (fun H locs hP hD hS => ?_)
  obtain ⟨gz, h⟩ := g_p h
  have h' := Option.some.inj h
  rw [← hQQ]
  exact W.zret (v := q8) hx hb hr (g_zr _ gz) (fun t ht hW => ⟨⟨q8, (), rfl, by rw [← h'], by rw [← hWQ, ht]; exact hP, va_K.moved hW.alike hK⟩, hS.F ht⟩) hS.2.2 dX8_isFigure_11
