def f_P_printNode_168 (N : Nat) (iB3 : Int32) (iB5 : Int32) (lB2 : Nat → Int64) (lB4 : Nat → Int64) (iC4 : Int32) (aC0 : Nat → Int32) (aC1 : Nat → Int32) (aC2 : Nat → Int32) (iP1 : Int32) (iP4 : Int32) (aP0 : Nat → Int32) (aP3 : Nat → Int32) (s1 : Int32) (s2 : Int32) (x_iP4 : Int32) (x_aP3 : Nat → Int32) : Option (Int32 × Int32 × (Nat → Int32) × (Nat → Int32)) := (f_P_awaitPart s1 s2 x_iP4 x_aP3).bind fun q168 => (some (iP1, q168.1, aP0, q168.2))
def f_P_printNode_147 (N : Nat) (iB3 : Int32) (iB5 : Int32) (lB2 : Nat → Int64) (lB4 : Nat → Int64) (iC4 : Int32) (aC0 : Nat → Int32) (aC1 : Nat → Int32) (aC2 : Nat → Int32) (iP1 : Int32) (iP4 : Int32) (aP0 : Nat → Int32) (aP3 : Nat → Int32) (v3 : Int32) (v4 : Int32) (s1 : Int32) (x_iP4 : Int32) (x_aP3 : Nat → Int32) : Option (Int32 × Int32 × (Nat → Int32) × (Nat → Int32)) := (f_P_await s1 x_iP4 x_aP3).bind fun q147 => ((f_C_sortOf v4 iC4 aC0).bind fun q156 => (if q156 ≤ v3 then (f_P_printNode_168 N iB3 iB5 lB2 lB4 iC4 aC0 aC1 aC2 iP1 iP4 aP0 aP3 v4 ((0 : Int32)) q147.1 q147.2) else (f_P_printNode_168 N iB3 iB5 lB2 lB4 iC4 aC0 aC1 aC2 iP1 iP4 aP0 aP3 v4 ((1 : Int32)) q147.1 q147.2)))
def f_P_printNode_130 (N : Nat) (iB3 : Int32) (iB5 : Int32) (lB2 : Nat → Int64) (lB4 : Nat → Int64) (iC4 : Int32) (aC0 : Nat → Int32) (aC1 : Nat → Int32) (aC2 : Nat → Int32) (iP1 : Int32) (iP4 : Int32) (aP0 : Nat → Int32) (aP3 : Nat → Int32) (v3 : Int32) (v4 : Int32) (s1 : Int32) (s2 : Int32) : Option (Int32 × Int32 × (Nat → Int32) × (Nat → Int32)) := (f_P_awaitPart s1 s2 iP4 aP3).bind fun q130 => (if v3 = (6 : Int32) then (f_P_printNode_147 N iB3 iB5 lB2 lB4 iC4 aC0 aC1 aC2 iP1 iP4 aP0 aP3 v3 v4 ((-3 : Int32)) q130.1 q130.2) else (f_P_printNode_147 N iB3 iB5 lB2 lB4 iC4 aC0 aC1 aC2 iP1 iP4 aP0 aP3 v3 v4 ((-4 : Int32)) q130.1 q130.2))
def f_P_printNode_256 (N : Nat) (iB3 : Int32) (iB5 : Int32) (lB2 : Nat → Int64) (lB4 : Nat → Int64) (iC4 : Int32) (aC0 : Nat → Int32) (aC1 : Nat → Int32) (aC2 : Nat → Int32) (iP1 : Int32) (iP4 : Int32) (aP0 : Nat → Int32) (aP3 : Nat → Int32) (s1 : Int32) (s2 : Int32) (x_iP1 : Int32) (x_aP0 : Nat → Int32) : Option (Int32 × Int32 × (Nat → Int32) × (Nat → Int32)) := (f_P_awaitPart s1 s2 iP4 aP3).bind fun q256 => (some (x_iP1, q256.1, x_aP0, q256.2))
def f_P_printNode_221 (N : Nat) (iB3 : Int32) (iB5 : Int32) (lB2 : Nat → Int64) (lB4 : Nat → Int64) (iC4 : Int32) (aC0 : Nat → Int32) (aC1 : Nat → Int32) (aC2 : Nat → Int32) (iP1 : Int32) (iP4 : Int32) (aP0 : Nat → Int32) (aP3 : Nat → Int32) (v4 : Int32) (v5 : Int32) (s1 : Int64) : Option (Int32 × Int32 × (Nat → Int32) × (Nat → Int32)) := (f_P_putBehind N s1 iP1 aP0).bind fun q221 => ((f_B_roleWord v5 iB5 lB4).bind fun q231 => ((f_P_putBehind N q231 q221.1 q221.2).bind fun q234 => ((f_C_sortOf v4 iC4 aC0).bind fun q243 => (if q243 < (6 : Int32) then (f_P_printNode_256 N iB3 iB5 lB2 lB4 iC4 aC0 aC1 aC2 iP1 iP4 aP0 aP3 v4 ((0 : Int32)) q234.1 q234.2) else (f_P_printNode_256 N iB3 iB5 lB2 lB4 iC4 aC0 aC1 aC2 iP1 iP4 aP0 aP3 v4 ((1 : Int32)) q234.1 q234.2)))))
def f_P_printNode_200 (N : Nat) (iB3 : Int32) (iB5 : Int32) (lB2 : Nat → Int64) (lB4 : Nat → Int64) (iC4 : Int32) (aC0 : Nat → Int32) (aC1 : Nat → Int32) (aC2 : Nat → Int32) (iP1 : Int32) (iP4 : Int32) (aP0 : Nat → Int32) (aP3 : Nat → Int32) (s1 : Int32) (s2 : Int32) (x_iP1 : Int32) (x_aP0 : Nat → Int32) : Option (Int32 × Int32 × (Nat → Int32) × (Nat → Int32)) := (f_P_awaitPart s1 s2 iP4 aP3).bind fun q200 => (some (x_iP1, q200.1, x_aP0, q200.2))
def f_P_printNode (N : Nat) (a1 : Int32) (iB3 : Int32) (iB5 : Int32) (lB2 : Nat → Int64) (lB4 : Nat → Int64) (iC4 : Int32) (aC0 : Nat → Int32) (aC1 : Nat → Int32) (aC2 : Nat → Int32) (iP1 : Int32) (iP4 : Int32) (aP0 : Nat → Int32) (aP3 : Nat → Int32) : Option (Int32 × Int32 × (Nat → Int32) × (Nat → Int32)) := (f_C_sortOf a1 iC4 aC0).bind fun q10 => ((f_C_leftOf a1 iC4 aC1).bind fun q16 => ((f_C_rightOf a1 iC4 aC2).bind fun q23 => (if q10 = (0 : Int32) then ((f_B_nameWord q16 iB3 lB2).bind fun q83 => ((f_P_putWord N q83 iP1 aP0).bind fun q86 => (some (q86.1, iP4, q86.2, aP3)))) else (if q10 = (1 : Int32) then ((f_P_putWord N ((7630704 : Int64)) iP1 aP0).bind fun q96 => (some (q96.1, iP4, q96.2, aP3))) else (if q10 = (2 : Int32) then ((f_P_putWord N ((108230834679661 : Int64)) iP1 aP0).bind fun q106 => (some (q106.1, iP4, q106.2, aP3))) else (if q10 = (3 : Int32) then ((f_P_putBehind N ((7237492 : Int64)) iP1 aP0).bind fun q178 => ((f_C_sortOf q16 iC4 aC0).bind fun q187 => (if q187 < (6 : Int32) then (f_P_printNode_200 N iB3 iB5 lB2 lB4 iC4 aC0 aC1 aC2 iP1 iP4 aP0 aP3 q16 ((0 : Int32)) q178.1 q178.2) else (f_P_printNode_200 N iB3 iB5 lB2 lB4 iC4 aC0 aC1 aC2 iP1 iP4 aP0 aP3 q16 ((1 : Int32)) q178.1 q178.2)))) else (if q10 = (4 : Int32) then (if q10 = (4 : Int32) then (f_P_printNode_221 N iB3 iB5 lB2 lB4 iC4 aC0 aC1 aC2 iP1 iP4 aP0 aP3 q16 q23 ((1936682341 : Int64))) else (f_P_printNode_221 N iB3 iB5 lB2 lB4 iC4 aC0 aC1 aC2 iP1 iP4 aP0 aP3 q16 q23 ((435778056825 : Int64)))) else (if q10 = (5 : Int32) then (if q10 = (4 : Int32) then (f_P_printNode_221 N iB3 iB5 lB2 lB4 iC4 aC0 aC1 aC2 iP1 iP4 aP0 aP3 q16 q23 ((1936682341 : Int64))) else (f_P_printNode_221 N iB3 iB5 lB2 lB4 iC4 aC0 aC1 aC2 iP1 iP4 aP0 aP3 q16 q23 ((435778056825 : Int64)))) else (if q10 = (6 : Int32) then ((f_C_sortOf q23 iC4 aC0).bind fun q118 => (if q118 < q10 then (f_P_printNode_130 N iB3 iB5 lB2 lB4 iC4 aC0 aC1 aC2 iP1 iP4 aP0 aP3 q10 q16 q23 ((0 : Int32))) else (f_P_printNode_130 N iB3 iB5 lB2 lB4 iC4 aC0 aC1 aC2 iP1 iP4 aP0 aP3 q10 q16 q23 ((1 : Int32))))) else (if q10 = (7 : Int32) then ((f_C_sortOf q23 iC4 aC0).bind fun q118 => (if q118 < q10 then (f_P_printNode_130 N iB3 iB5 lB2 lB4 iC4 aC0 aC1 aC2 iP1 iP4 aP0 aP3 q10 q16 q23 ((0 : Int32))) else (f_P_printNode_130 N iB3 iB5 lB2 lB4 iC4 aC0 aC1 aC2 iP1 iP4 aP0 aP3 q10 q16 q23 ((1 : Int32))))) else (if q10 = (4 : Int32) then (f_P_printNode_221 N iB3 iB5 lB2 lB4 iC4 aC0 aC1 aC2 iP1 iP4 aP0 aP3 q16 q23 ((1936682341 : Int64))) else (f_P_printNode_221 N iB3 iB5 lB2 lB4 iC4 aC0 aC1 aC2 iP1 iP4 aP0 aP3 q16 q23 ((435778056825 : Int64))))))))))))))
set_option maxHeartbeats 8000000 in
set_option maxRecDepth 100000 in
theorem c_P_printNode (l : Launch) (dC : Nat → ClassId) (dI : Nat → Nat → Nat) (cy : Nat → ClassId) (ad : Nat → Nat) (sz : Nat) (N : Nat) (a1 : Int32) (iP : Nat → Int32) (aP : Nat → Nat → Int32) (iB : Nat → Int32) (lB : Nat → Nat → Int64) (aB : Nat → Nat → Int32) (iC : Nat → Int32) (aC : Nat → Nat → Int32) (q : Int32 × Int32 × (Nat → Int32) × (Nat → Int32)) (h : f_P_printNode N a1 (iB 3) (iB 5) (lB 2) (lB 4) (iC 4) (aC 0) (aC 1) (aC 2) (iP 1) (iP 4) (aP 0) (aP 3) = some q) : Met l yX3_printNode wsX3_printNode ({ frames := 2, cells := 0, slots := 0, locals := 47 } : Room) (cP (dC, dI) cy [.ref (ad 0), .int a1] (zzP ad cy (ad 3) iP aP iB lB aB iC aC) sz) (cQv (dC, dI) cy (zzP ad cy (ad 3) (us iP [(1, q.1), (4, q.2.1)]) (us aP [(0, q.2.2.1), (3, q.2.2.2)]) iB lB aB iC aC) (va_A (zzP ad cy (ad 3) iP aP iB lB aB iC aC) sz)) 0 0 (va_A (zzP ad cy (ad 3) iP aP iB lB aB iC aC) sz) := by
  refine Met.ofW (cc := cX3_printNode) (maxL := 6) (ret := none) (by decide) rfl ?_
  intro p e s m args below meth c s₁ B hml hv
  obtain ⟨hav, hsz, hP, hK, hD0, hN⟩ := hv
  have hx := B.exec
  have hb := B.bytes
  have hr := B.returns
  have hts := atoms_spec (ws := wsX3_printNode) B.pre
  have hown : s.vm.findClass RX3 = some m.cls := findClass_of_methodNamed B.named
  have hlocks := B.notSynchronized
  subst hsz
  have hD := hD0.self (sz := s.heap.size)
  generalize hAe : va_A (zzP ad cy (ad 3) iP aP iB lB aB iC aC) s.heap.size = A at hD ⊢
  have hA : ∀ q : Nat, s.heap.size ≤ q → A q := fun q h => by rw [← hAe]; exact Or.inr h
  have hS : va_S A s.heap s.heap [] := va_S.rf
  generalize hWQ : (zzP ad cy (ad 3) (us iP [(1, q.1), (4, q.2.1)]) (us aP [(0, q.2.2.1), (3, q.2.2.2)]) iB lB aB iC aC) = WQ
  generalize hQQ : MQ below (cQv (dC, dI) cy WQ A) args s 0 0 A = QQ
  have hl := lv_entry ([.ref (ad 0), .int a1] : List Value) (n := 6) (Nat.le_of_ble_eq_true rfl)
  have hfr := lg_entry_eq m ([.ref (ad 0), .int a1] : List Value) 6
  rw [← hav] at hfr
  rw [hfr]
  clear hfr hav
  generalize (lg_sl ([.ref (ad 0), .int a1] : List Value) ++ List.replicate (6 - (lg_sl ([.ref (ad 0), .int a1] : List Value)).length) Slot.unset).toArray = ls at hl ⊢
  have hl : lv_has ls 6 [(0, .ref (ad 0)), (1, .int a1)] := hl
  have kf19 := hts _ (List.mem_cons_of_mem _ m_fl_X3_19)
  have ki3 := (fun w h => List.mem_cons_of_mem _ (i_X3 w h) : ∀ w ∈ u_ws RX3 TX3 5, w ∈ wsX3_printNode)
  have kf99 := hts _ (List.mem_cons_of_mem _ m_fl_X3_99)
  have ki0 := (fun w h => List.mem_cons_of_mem _ (i_X0 w h) : ∀ w ∈ u_ws RX0 TX0 15, w ∈ wsX3_printNode)
  have kc111 := hts _ (List.mem_cons_of_mem _ m_kl_X3_111)
  have kc113 := hts _ (List.mem_cons_of_mem _ m_kl_X3_113)
  have kc119 := hts _ (List.mem_cons_of_mem _ m_kl_X3_119)
  have kc123 := hts _ (List.mem_cons_of_mem _ m_kl_X3_123)
  have kc121 := hts _ (List.mem_cons_of_mem _ m_kl_X3_121)
  refine (?_ : ∀ (H : Heap) (locs : List Loc), va_P (dC, dI) vwCl (zzP ad cy (ad 3) iP aP iB lB aB iC aC) H → va_D A (zzP ad cy (ad 3) iP aP iB lB aB iC aC) → va_S A s.heap H locs → W p l e ({ frames := 2, cells := 0, slots := 0, locals := 47 } : Room) s m args below meth c H locs 0 0 QQ (F0 m 0 ls [])) s.heap [] hP hD hS
  clear hP hD hS
  have B168 : ∀ (s1 : Int32) (s2 : Int32) (x_iP4 : Int32) (x_aP3 : Nat → Int32) (H : Heap) (locs : List Loc) (ls : Array Slot), f_P_printNode_168 N (iB 3) (iB 5) (lB 2) (lB 4) (iC 4) (aC 0) (aC 1) (aC 2) (iP 1) (iP 4) (aP 0) (aP 3) s1 s2 x_iP4 x_aP3 = some q → va_P (dC, dI) vwCl (zzP ad cy (ad 3) (us iP [(4, x_iP4)]) (us aP [(3, x_aP3)]) iB lB aB iC aC) H → va_D A (zzP ad cy (ad 3) (us iP [(4, x_iP4)]) (us aP [(3, x_aP3)]) iB lB aB iC aC) → va_S A s.heap H locs → lv_has ls 6 [] → W p l e ({ frames := 2, cells := 0, slots := 0, locals := 47 } : Room) s m args below meth c H locs 0 0 QQ (F0 m 168 ls [.int s2, .int s1, .ref (ad 0)]) := by
    intro s1 s2 x_iP4 x_aP3 H locs ls h hP hD hS hl
    unfold f_P_printNode_168 at h
    obtain ⟨q168, e168, h⟩ := g_b h
    refine callVvs (cc := cX3_printNode) (w1 := zzP ad cy (ad 3) (us iP [(4, q168.1)]) (us aP [(3, q168.2)]) iB lB aB iC aC) (As := [.int s1, .int s2]) (rest := []) ⟨hx, hb, hml, hown, hts⟩ (c_P_awaitPart l dC dI cy ad H.size s1 s2 ((us iP [(4, x_iP4)])) ((us aP [(3, x_aP3)])) iB lB aB iC aC q168 e168) (cwV 2 hts (goodV m_ml_X3_115 m_im_X3_awaitPart m_se_X3_awaitPart m_in_X3 m_cd_X3_awaitPart) rfl rfl rfl (by decide +kernel) ⟨Nat.le_of_ble_eq_true rfl, Nat.le_of_ble_eq_true rfl⟩) hN hK hP hD hS hA rfl 0 rfl rfl rfl hl.1 rfl (Nat.le_of_ble_eq_true rfl) dX3_printNode_168 ⟨Nat.zero_le _, Nat.zero_le _⟩ (fun H locs hP hD hS => ?_)
    refine lv_goto (tgt := 259) hx hb dX3_printNode_171 (by decide) ?_
    have h' := Option.some.inj h
    rw [← hQQ]
    exact W.vret hx hb hr (fun t ht hW => ⟨⟨(), rfl, trivial, by rw [← hWQ, ← h', ht]; exact hP, va_K.moved hW.alike hK⟩, hS.F ht⟩) hS.2.2 dX3_printNode_259
  have B147 : ∀ (v3 : Int32) (v4 : Int32) (s1 : Int32) (x_iP4 : Int32) (x_aP3 : Nat → Int32) (H : Heap) (locs : List Loc) (ls : Array Slot), f_P_printNode_147 N (iB 3) (iB 5) (lB 2) (lB 4) (iC 4) (aC 0) (aC 1) (aC 2) (iP 1) (iP 4) (aP 0) (aP 3) v3 v4 s1 x_iP4 x_aP3 = some q → va_P (dC, dI) vwCl (zzP ad cy (ad 3) (us iP [(4, x_iP4)]) (us aP [(3, x_aP3)]) iB lB aB iC aC) H → va_D A (zzP ad cy (ad 3) (us iP [(4, x_iP4)]) (us aP [(3, x_aP3)]) iB lB aB iC aC) → va_S A s.heap H locs → lv_has ls 6 [(0, .ref (ad 0)), (2, .ref (ad 10)), (3, .int v3), (4, .int v4)] → W p l e ({ frames := 2, cells := 0, slots := 0, locals := 47 } : Room) s m args below meth c H locs 0 0 QQ (F0 m 147 ls [.int s1, .ref (ad 0)]) := by
    intro v3 v4 s1 x_iP4 x_aP3 H locs ls h hP hD hS hl
    unfold f_P_printNode_147 at h
    obtain ⟨q147, e147, h⟩ := g_b h
    refine callVvs (cc := cX3_printNode) (w1 := zzP ad cy (ad 3) (us iP [(4, q147.1)]) (us aP [(3, q147.2)]) iB lB aB iC aC) (As := [.int s1]) (rest := []) ⟨hx, hb, hml, hown, hts⟩ (c_P_await l dC dI cy ad H.size s1 ((us iP [(4, x_iP4)])) ((us aP [(3, x_aP3)])) iB lB aB iC aC q147 e147) (cwV 1 hts (goodV m_ml_X3_82 m_im_X3_await m_se_X3_await m_in_X3 m_cd_X3_await) rfl rfl rfl (by decide +kernel) ⟨Nat.le_of_ble_eq_true rfl, Nat.le_of_ble_eq_true rfl⟩) hN hK hP hD hS hA rfl 0 rfl rfl rfl hl.1 rfl (Nat.le_of_ble_eq_true rfl) dX3_printNode_147 ⟨Nat.zero_le _, Nat.zero_le _⟩ (fun H locs hP hD hS => ?_)
    refine lv_aload_n hx hb dX3_printNode_150 rfl (lv_at hl 0 rfl) ?_
    refine lv_iload hx hb dX3_printNode_151 (lv_at hl 3 rfl) ?_
    refine lv_aload_n hx hb dX3_printNode_153 rfl (lv_at hl 1 rfl) ?_
    refine lv_iload hx hb dX3_printNode_154 (lv_at hl 3 rfl) ?_
    obtain ⟨q156, e156, h⟩ := g_b h
    refine callVi (cc := cX3_printNode) (ws' := zzP ad cy (ad 3) (us iP [(4, q147.1)]) (us aP [(3, q147.2)]) iB lB aB iC aC) (As := [.int v4]) (rest := [.int v4, .ref (ad 0)]) ⟨hx, hb, hml, hown, hts⟩ (c_C_sortOf l dC dI cy (fun i => ad (i + 10)) H.size v4 iC aC q156 e156) (cwV 1 hts (goodV m_ml_X3_103 m_im_X1_sortOf m_se_X1_sortOf m_in_X1 m_cd_X1_sortOf) rfl rfl rfl (by decide +kernel) ⟨Nat.le_of_ble_eq_true rfl, Nat.le_of_ble_eq_true rfl⟩) hN hK hP hD hS hA [10, 11, 12, 13, 14, 15, 16, 17, 18] [none, none, none, none, none, none, none, none, none, none, some 0, some 1, some 2, some 3, some 4, some 5, some 6, some 7, some 8] rfl rfl rfl rfl rfl rfl 10 rfl rfl rfl hl.1 rfl (Nat.le_of_ble_eq_true rfl) dX3_printNode_156 ⟨Nat.zero_le _, Nat.zero_le _⟩ (fun H locs hP hD hS => ?_)
    refine lv_iload_n hx hb dX3_printNode_159 rfl (lv_at hl 2 rfl) ?_
    refine lv_icmp_le (tgt := 167) hx hb dX3_printNode_160 (by decide) (fun cz => ?_) (fun cz => ?_)
    · have h := g_t h cz
      refine lv_iconst (v := 0) hx hb dX3_printNode_167 (by decide) ?_
      exact B168 v4 ((0 : Int32)) q147.1 q147.2 H locs ls h hP hD hS (lv_sub hl [] rfl)
    · have h := g_f h cz
      refine lv_iconst (v := 1) hx hb dX3_printNode_163 (by decide) ?_
      refine lv_goto (tgt := 168) hx hb dX3_printNode_164 (by decide) ?_
      exact B168 v4 ((1 : Int32)) q147.1 q147.2 H locs ls h hP hD hS (lv_sub hl [] rfl)
  have B130 : ∀ (v3 : Int32) (v4 : Int32) (s1 : Int32) (s2 : Int32) (H : Heap) (locs : List Loc) (ls : Array Slot), f_P_printNode_130 N (iB 3) (iB 5) (lB 2) (lB 4) (iC 4) (aC 0) (aC 1) (aC 2) (iP 1) (iP 4) (aP 0) (aP 3) v3 v4 s1 s2 = some q → va_P (dC, dI) vwCl (zzP ad cy (ad 3) iP aP iB lB aB iC aC) H → va_D A (zzP ad cy (ad 3) iP aP iB lB aB iC aC) → va_S A s.heap H locs → lv_has ls 6 [(0, .ref (ad 0)), (2, .ref (ad 10)), (3, .int v3), (4, .int v4)] → W p l e ({ frames := 2, cells := 0, slots := 0, locals := 47 } : Room) s m args below meth c H locs 0 0 QQ (F0 m 130 ls [.int s2, .int s1, .ref (ad 0)]) := by
    intro v3 v4 s1 s2 H locs ls h hP hD hS hl
    unfold f_P_printNode_130 at h
    obtain ⟨q130, e130, h⟩ := g_b h
    refine callVvs (cc := cX3_printNode) (w1 := zzP ad cy (ad 3) (us iP [(4, q130.1)]) (us aP [(3, q130.2)]) iB lB aB iC aC) (As := [.int s1, .int s2]) (rest := []) ⟨hx, hb, hml, hown, hts⟩ (c_P_awaitPart l dC dI cy ad H.size s1 s2 iP aP iB lB aB iC aC q130 e130) (cwV 2 hts (goodV m_ml_X3_115 m_im_X3_awaitPart m_se_X3_awaitPart m_in_X3 m_cd_X3_awaitPart) rfl rfl rfl (by decide +kernel) ⟨Nat.le_of_ble_eq_true rfl, Nat.le_of_ble_eq_true rfl⟩) hN hK hP hD hS hA rfl 0 rfl rfl rfl hl.1 rfl (Nat.le_of_ble_eq_true rfl) dX3_printNode_130 ⟨Nat.zero_le _, Nat.zero_le _⟩ (fun H locs hP hD hS => ?_)
    refine lv_aload_n hx hb dX3_printNode_133 rfl (lv_at hl 0 rfl) ?_
    refine lv_iload_n hx hb dX3_printNode_134 rfl (lv_at hl 2 rfl) ?_
    refine lv_bipush (v := 6) hx hb dX3_printNode_135 (by decide) ?_
    refine lv_icmp_ne (tgt := 145) hx hb dX3_printNode_137 (by decide) (fun cz => ?_) (fun cz => ?_)
    · have h := g_f h cz
      refine lv_bipush (v := (-4)) hx hb dX3_printNode_145 (by decide) ?_
      exact B147 v3 v4 ((-4 : Int32)) q130.1 q130.2 H locs ls h hP hD hS (lv_sub hl [0, 1, 2, 3] rfl)
    · have h := g_t h cz
      refine lv_bipush (v := (-3)) hx hb dX3_printNode_140 (by decide) ?_
      refine lv_goto (tgt := 147) hx hb dX3_printNode_142 (by decide) ?_
      exact B147 v3 v4 ((-3 : Int32)) q130.1 q130.2 H locs ls h hP hD hS (lv_sub hl [0, 1, 2, 3] rfl)
  have B256 : ∀ (s1 : Int32) (s2 : Int32) (x_iP1 : Int32) (x_aP0 : Nat → Int32) (H : Heap) (locs : List Loc) (ls : Array Slot), f_P_printNode_256 N (iB 3) (iB 5) (lB 2) (lB 4) (iC 4) (aC 0) (aC 1) (aC 2) (iP 1) (iP 4) (aP 0) (aP 3) s1 s2 x_iP1 x_aP0 = some q → va_P (dC, dI) vwCl (zzP ad cy (ad 3) (us iP [(1, x_iP1)]) (us aP [(0, x_aP0)]) iB lB aB iC aC) H → va_D A (zzP ad cy (ad 3) (us iP [(1, x_iP1)]) (us aP [(0, x_aP0)]) iB lB aB iC aC) → va_S A s.heap H locs → lv_has ls 6 [] → W p l e ({ frames := 2, cells := 0, slots := 0, locals := 47 } : Room) s m args below meth c H locs 0 0 QQ (F0 m 256 ls [.int s2, .int s1, .ref (ad 0)]) := by
    intro s1 s2 x_iP1 x_aP0 H locs ls h hP hD hS hl
    unfold f_P_printNode_256 at h
    obtain ⟨q256, e256, h⟩ := g_b h
    refine callVvs (cc := cX3_printNode) (w1 := zzP ad cy (ad 3) (us iP [(1, x_iP1), (4, q256.1)]) (us aP [(0, x_aP0), (3, q256.2)]) iB lB aB iC aC) (As := [.int s1, .int s2]) (rest := []) ⟨hx, hb, hml, hown, hts⟩ (c_P_awaitPart l dC dI cy ad H.size s1 s2 ((us iP [(1, x_iP1)])) ((us aP [(0, x_aP0)])) iB lB aB iC aC q256 e256) (cwV 2 hts (goodV m_ml_X3_115 m_im_X3_awaitPart m_se_X3_awaitPart m_in_X3 m_cd_X3_awaitPart) rfl rfl rfl (by decide +kernel) ⟨Nat.le_of_ble_eq_true rfl, Nat.le_of_ble_eq_true rfl⟩) hN hK hP hD hS hA rfl 0 rfl rfl rfl hl.1 rfl (Nat.le_of_ble_eq_true rfl) dX3_printNode_256 ⟨Nat.zero_le _, Nat.zero_le _⟩ (fun H locs hP hD hS => ?_)
    have h' := Option.some.inj h
    rw [← hQQ]
    exact W.vret hx hb hr (fun t ht hW => ⟨⟨(), rfl, trivial, by rw [← hWQ, ← h', ht]; exact hP, va_K.moved hW.alike hK⟩, hS.F ht⟩) hS.2.2 dX3_printNode_259
  have B221 : ∀ (v4 : Int32) (v5 : Int32) (s1 : Int64) (H : Heap) (locs : List Loc) (ls : Array Slot), f_P_printNode_221 N (iB 3) (iB 5) (lB 2) (lB 4) (iC 4) (aC 0) (aC 1) (aC 2) (iP 1) (iP 4) (aP 0) (aP 3) v4 v5 s1 = some q → va_P (dC, dI) vwCl (zzP ad cy (ad 3) iP aP iB lB aB iC aC) H → va_D A (zzP ad cy (ad 3) iP aP iB lB aB iC aC) → va_S A s.heap H locs → lv_has ls 6 [(0, .ref (ad 0)), (2, .ref (ad 10)), (4, .int v4), (5, .int v5)] → W p l e ({ frames := 2, cells := 0, slots := 0, locals := 47 } : Room) s m args below meth c H locs 0 0 QQ (F0 m 221 ls [.long s1, .ref (ad 0)]) := by
    intro v4 v5 s1 H locs ls h hP hD hS hl
    unfold f_P_printNode_221 at h
    obtain ⟨q221, e221, h⟩ := g_b h
    refine callVvs (cc := cX3_printNode) (w1 := zzP ad cy (ad 3) (us iP [(1, q221.1)]) (us aP [(0, q221.2)]) iB lB aB iC aC) (As := [.long s1]) (rest := []) ⟨hx, hb, hml, hown, hts⟩ (c_P_putBehind l dC dI cy ad H.size N s1 iP aP iB lB aB iC aC q221 e221) (cwV 1 hts (goodV m_ml_X3_66 m_im_X3_putBehind m_se_X3_putBehind m_in_X3 m_cd_X3_putBehind) rfl rfl rfl (by decide +kernel) ⟨Nat.le_of_ble_eq_true rfl, Nat.le_of_ble_eq_true rfl⟩) hN hK hP hD hS hA rfl 0 rfl rfl rfl hl.1 rfl (Nat.le_of_ble_eq_true rfl) dX3_printNode_221 ⟨Nat.zero_le _, Nat.zero_le _⟩ (fun H locs hP hD hS => ?_)
    refine lv_aload_n hx hb dX3_printNode_224 rfl (lv_at hl 0 rfl) ?_
    refine lv_aload_n hx hb dX3_printNode_225 rfl (lv_at hl 0 rfl) ?_
    refine va_get (D := (dC, dI)) (ci := 3) (v := .ref (ad 3)) (C := RX3) (T := TX3) (N := 5) hx hb hts ki3 hown hK hP 0 rfl rfl 2 (by decide) kf19 (fun _ h9 => h9) rfl dX3_printNode_226 ?_
    refine lv_iload hx hb dX3_printNode_229 (lv_at hl 3 rfl) ?_
    obtain ⟨q231, e231, h⟩ := g_b h
    refine callVl (cc := cX3_printNode) (ws' := zzP ad cy (ad 3) (us iP [(1, q221.1)]) (us aP [(0, q221.2)]) iB lB aB iC aC) (As := [.int v5]) (rest := [.ref (ad 0)]) ⟨hx, hb, hml, hown, hts⟩ (c_B_roleWord l dC dI cy (fun i => ad (i + 3)) H.size v5 iB lB aB iC aC q231 e231) (cwV 1 hts (goodV m_ml_X3_73 m_im_X0_roleWord m_se_X0_roleWord m_in_X0 m_cd_X0_roleWord) rfl rfl rfl (by decide +kernel) ⟨Nat.le_of_ble_eq_true rfl, Nat.le_of_ble_eq_true rfl⟩) hN hK hP hD hS hA [3, 4, 5, 6, 7, 8, 9, 10, 11, 12, 13, 14, 15, 16, 17, 18] [none, none, none, some 0, some 1, some 2, some 3, some 4, some 5, some 6, some 7, some 8, some 9, some 10, some 11, some 12, some 13, some 14, some 15] rfl rfl rfl rfl rfl rfl 3 rfl rfl rfl hl.1 rfl (Nat.le_of_ble_eq_true rfl) dX3_printNode_231 ⟨Nat.zero_le _, Nat.zero_le _⟩ (fun H locs hP hD hS => ?_)
    obtain ⟨q234, e234, h⟩ := g_b h
    refine callVvs (cc := cX3_printNode) (w1 := zzP ad cy (ad 3) (us iP [(1, q234.1)]) (us aP [(0, q234.2)]) iB lB aB iC aC) (As := [.long q231]) (rest := []) ⟨hx, hb, hml, hown, hts⟩ (c_P_putBehind l dC dI cy ad H.size N q231 ((us iP [(1, q221.1)])) ((us aP [(0, q221.2)])) iB lB aB iC aC q234 e234) (cwV 1 hts (goodV m_ml_X3_66 m_im_X3_putBehind m_se_X3_putBehind m_in_X3 m_cd_X3_putBehind) rfl rfl rfl (by decide +kernel) ⟨Nat.le_of_ble_eq_true rfl, Nat.le_of_ble_eq_true rfl⟩) hN hK hP hD hS hA rfl 0 rfl rfl rfl hl.1 rfl (Nat.le_of_ble_eq_true rfl) dX3_printNode_234 ⟨Nat.zero_le _, Nat.zero_le _⟩ (fun H locs hP hD hS => ?_)
    refine lv_aload_n hx hb dX3_printNode_237 rfl (lv_at hl 0 rfl) ?_
    refine lv_iload hx hb dX3_printNode_238 (lv_at hl 2 rfl) ?_
    refine lv_aload_n hx hb dX3_printNode_240 rfl (lv_at hl 1 rfl) ?_
    refine lv_iload hx hb dX3_printNode_241 (lv_at hl 2 rfl) ?_
    obtain ⟨q243, e243, h⟩ := g_b h
    refine callVi (cc := cX3_printNode) (ws' := zzP ad cy (ad 3) (us iP [(1, q234.1)]) (us aP [(0, q234.2)]) iB lB aB iC aC) (As := [.int v4]) (rest := [.int v4, .ref (ad 0)]) ⟨hx, hb, hml, hown, hts⟩ (c_C_sortOf l dC dI cy (fun i => ad (i + 10)) H.size v4 iC aC q243 e243) (cwV 1 hts (goodV m_ml_X3_103 m_im_X1_sortOf m_se_X1_sortOf m_in_X1 m_cd_X1_sortOf) rfl rfl rfl (by decide +kernel) ⟨Nat.le_of_ble_eq_true rfl, Nat.le_of_ble_eq_true rfl⟩) hN hK hP hD hS hA [10, 11, 12, 13, 14, 15, 16, 17, 18] [none, none, none, none, none, none, none, none, none, none, some 0, some 1, some 2, some 3, some 4, some 5, some 6, some 7, some 8] rfl rfl rfl rfl rfl rfl 10 rfl rfl rfl hl.1 rfl (Nat.le_of_ble_eq_true rfl) dX3_printNode_243 ⟨Nat.zero_le _, Nat.zero_le _⟩ (fun H locs hP hD hS => ?_)
    refine lv_bipush (v := 6) hx hb dX3_printNode_246 (by decide) ?_
    refine lv_icmp_lt (tgt := 255) hx hb dX3_printNode_248 (by decide) (fun cz => ?_) (fun cz => ?_)
    · have h := g_t h cz
      refine lv_iconst (v := 0) hx hb dX3_printNode_255 (by decide) ?_
      exact B256 v4 ((0 : Int32)) q234.1 q234.2 H locs ls h hP hD hS (lv_sub hl [] rfl)
    · have h := g_f h cz
      refine lv_iconst (v := 1) hx hb dX3_printNode_251 (by decide) ?_
      refine lv_goto (tgt := 256) hx hb dX3_printNode_252 (by decide) ?_
      exact B256 v4 ((1 : Int32)) q234.1 q234.2 H locs ls h hP hD hS (lv_sub hl [] rfl)
  have B200 : ∀ (s1 : Int32) (s2 : Int32) (x_iP1 : Int32) (x_aP0 : Nat → Int32) (H : Heap) (locs : List Loc) (ls : Array Slot), f_P_printNode_200 N (iB 3) (iB 5) (lB 2) (lB 4) (iC 4) (aC 0) (aC 1) (aC 2) (iP 1) (iP 4) (aP 0) (aP 3) s1 s2 x_iP1 x_aP0 = some q → va_P (dC, dI) vwCl (zzP ad cy (ad 3) (us iP [(1, x_iP1)]) (us aP [(0, x_aP0)]) iB lB aB iC aC) H → va_D A (zzP ad cy (ad 3) (us iP [(1, x_iP1)]) (us aP [(0, x_aP0)]) iB lB aB iC aC) → va_S A s.heap H locs → lv_has ls 6 [] → W p l e ({ frames := 2, cells := 0, slots := 0, locals := 47 } : Room) s m args below meth c H locs 0 0 QQ (F0 m 200 ls [.int s2, .int s1, .ref (ad 0)]) := by
    intro s1 s2 x_iP1 x_aP0 H locs ls h hP hD hS hl
    unfold f_P_printNode_200 at h
    obtain ⟨q200, e200, h⟩ := g_b h
    refine callVvs (cc := cX3_printNode) (w1 := zzP ad cy (ad 3) (us iP [(1, x_iP1), (4, q200.1)]) (us aP [(0, x_aP0), (3, q200.2)]) iB lB aB iC aC) (As := [.int s1, .int s2]) (rest := []) ⟨hx, hb, hml, hown, hts⟩ (c_P_awaitPart l dC dI cy ad H.size s1 s2 ((us iP [(1, x_iP1)])) ((us aP [(0, x_aP0)])) iB lB aB iC aC q200 e200) (cwV 2 hts (goodV m_ml_X3_115 m_im_X3_awaitPart m_se_X3_awaitPart m_in_X3 m_cd_X3_awaitPart) rfl rfl rfl (by decide +kernel) ⟨Nat.le_of_ble_eq_true rfl, Nat.le_of_ble_eq_true rfl⟩) hN hK hP hD hS hA rfl 0 rfl rfl rfl hl.1 rfl (Nat.le_of_ble_eq_true rfl) dX3_printNode_200 ⟨Nat.zero_le _, Nat.zero_le _⟩ (fun H locs hP hD hS => ?_)
    refine lv_goto (tgt := 259) hx hb dX3_printNode_203 (by decide) ?_
    have h' := Option.some.inj h
    rw [← hQQ]
    exact W.vret hx hb hr (fun t ht hW => ⟨⟨(), rfl, trivial, by rw [← hWQ, ← h', ht]; exact hP, va_K.moved hW.alike hK⟩, hS.F ht⟩) hS.2.2 dX3_printNode_259
  intro H locs hP hD hS
  unfold f_P_printNode at h
  refine lv_aload_n hx hb dX3_printNode_0 rfl (lv_at hl 0 rfl) ?_
  refine va_get (D := (dC, dI)) (ci := 3) (v := .ref (ad 3)) (C := RX3) (T := TX3) (N := 5) hx hb hts ki3 hown hK hP 0 rfl rfl 2 (by decide) kf19 (fun _ h9 => h9) rfl dX3_printNode_1 ?_
  refine va_get (D := (dC, dI)) (ci := 0) (v := .ref (ad 10)) (C := RX0) (T := TX0) (N := 15) hx hb hts ki0 hown hK hP 3 rfl rfl 0 (by decide) kf99 (fun _ h9 => h9) rfl dX3_printNode_4 ?_
  refine lv_astore_n (lv' := [(2, .ref (ad 10)), (0, .ref (ad 0)), (1, .int a1)]) hx hb dX3_printNode_7 rfl hl (by decide) rfl (fun ls hl => ?_)
  refine lv_aload_n hx hb dX3_printNode_8 rfl (lv_at hl 0 rfl) ?_
  refine lv_iload_n hx hb dX3_printNode_9 rfl (lv_at hl 2 rfl) ?_
  obtain ⟨q10, e10, h⟩ := g_b h
  refine callVi (cc := cX3_printNode) (ws' := zzP ad cy (ad 3) iP aP iB lB aB iC aC) (As := [.int a1]) (rest := []) ⟨hx, hb, hml, hown, hts⟩ (c_C_sortOf l dC dI cy (fun i => ad (i + 10)) H.size a1 iC aC q10 e10) (cwV 1 hts (goodV m_ml_X3_103 m_im_X1_sortOf m_se_X1_sortOf m_in_X1 m_cd_X1_sortOf) rfl rfl rfl (by decide +kernel) ⟨Nat.le_of_ble_eq_true rfl, Nat.le_of_ble_eq_true rfl⟩) hN hK hP hD hS hA [10, 11, 12, 13, 14, 15, 16, 17, 18] [none, none, none, none, none, none, none, none, none, none, some 0, some 1, some 2, some 3, some 4, some 5, some 6, some 7, some 8] rfl rfl rfl rfl rfl rfl 10 rfl rfl rfl hl.1 rfl (Nat.le_of_ble_eq_true rfl) dX3_printNode_10 ⟨Nat.zero_le _, Nat.zero_le _⟩ (fun H locs hP hD hS => ?_)
  refine lv_istore_n (lv' := [(3, .int q10), (2, .ref (ad 10)), (0, .ref (ad 0)), (1, .int a1)]) hx hb dX3_printNode_13 rfl hl (by decide) rfl (fun ls hl => ?_)
  refine lv_aload_n hx hb dX3_printNode_14 rfl (lv_at hl 1 rfl) ?_
  refine lv_iload_n hx hb dX3_printNode_15 rfl (lv_at hl 3 rfl) ?_
  obtain ⟨q16, e16, h⟩ := g_b h
  refine callVi (cc := cX3_printNode) (ws' := zzP ad cy (ad 3) iP aP iB lB aB iC aC) (As := [.int a1]) (rest := []) ⟨hx, hb, hml, hown, hts⟩ (c_C_leftOf l dC dI cy (fun i => ad (i + 10)) H.size a1 iC aC q16 e16) (cwV 1 hts (goodV m_ml_X3_106 m_im_X1_leftOf m_se_X1_leftOf m_in_X1 m_cd_X1_leftOf) rfl rfl rfl (by decide +kernel) ⟨Nat.le_of_ble_eq_true rfl, Nat.le_of_ble_eq_true rfl⟩) hN hK hP hD hS hA [10, 11, 12, 13, 14, 15, 16, 17, 18] [none, none, none, none, none, none, none, none, none, none, some 0, some 1, some 2, some 3, some 4, some 5, some 6, some 7, some 8] rfl rfl rfl rfl rfl rfl 10 rfl rfl rfl hl.1 rfl (Nat.le_of_ble_eq_true rfl) dX3_printNode_16 ⟨Nat.zero_le _, Nat.zero_le _⟩ (fun H locs hP hD hS => ?_)
  refine lv_istore (lv' := [(4, .int q16), (3, .int q10), (2, .ref (ad 10)), (0, .ref (ad 0)), (1, .int a1)]) hx hb dX3_printNode_19 hl (by decide) rfl (fun ls hl => ?_)
  refine lv_aload_n hx hb dX3_printNode_21 rfl (lv_at hl 2 rfl) ?_
  refine lv_iload_n hx hb dX3_printNode_22 rfl (lv_at hl 4 rfl) ?_
  obtain ⟨q23, e23, h⟩ := g_b h
  refine callVi (cc := cX3_printNode) (ws' := zzP ad cy (ad 3) iP aP iB lB aB iC aC) (As := [.int a1]) (rest := []) ⟨hx, hb, hml, hown, hts⟩ (c_C_rightOf l dC dI cy (fun i => ad (i + 10)) H.size a1 iC aC q23 e23) (cwV 1 hts (goodV m_ml_X3_107 m_im_X1_rightOf m_se_X1_rightOf m_in_X1 m_cd_X1_rightOf) rfl rfl rfl (by decide +kernel) ⟨Nat.le_of_ble_eq_true rfl, Nat.le_of_ble_eq_true rfl⟩) hN hK hP hD hS hA [10, 11, 12, 13, 14, 15, 16, 17, 18] [none, none, none, none, none, none, none, none, none, none, some 0, some 1, some 2, some 3, some 4, some 5, some 6, some 7, some 8] rfl rfl rfl rfl rfl rfl 10 rfl rfl rfl hl.1 rfl (Nat.le_of_ble_eq_true rfl) dX3_printNode_23 ⟨Nat.zero_le _, Nat.zero_le _⟩ (fun H locs hP hD hS => ?_)
  refine lv_istore (lv' := [(5, .int q23), (4, .int q16), (3, .int q10), (2, .ref (ad 10)), (0, .ref (ad 0)), (1, .int a1)]) hx hb dX3_printNode_26 hl (by decide) rfl (fun ls hl => ?_)
  refine lv_iload_n hx hb dX3_printNode_28 rfl (lv_at hl 2 rfl) ?_
  rcases Decidable.em (q10 = (0 : Int32)) with c0 | c0
  · have h := g_t h c0
    refine lv_tableIn (off := 47) (tgt := 76) hx hb dX3_printNode_29 (by rw [c0]; decide) (by rw [c0]; decide) (by rw [c0]; rfl) (by decide) ?_
    refine lv_aload_n hx hb dX3_printNode_76 rfl (lv_at hl 4 rfl) ?_
    refine lv_aload_n hx hb dX3_printNode_77 rfl (lv_at hl 4 rfl) ?_
    refine va_get (D := (dC, dI)) (ci := 3) (v := .ref (ad 3)) (C := RX3) (T := TX3) (N := 5) hx hb hts ki3 hown hK hP 0 rfl rfl 2 (by decide) kf19 (fun _ h9 => h9) rfl dX3_printNode_78 ?_
    refine lv_iload hx hb dX3_printNode_81 (lv_at hl 1 rfl) ?_
    obtain ⟨q83, e83, h⟩ := g_b h
    refine callVl (cc := cX3_printNode) (ws' := zzP ad cy (ad 3) iP aP iB lB aB iC aC) (As := [.int q16]) (rest := [.ref (ad 0)]) ⟨hx, hb, hml, hown, hts⟩ (c_B_nameWord l dC dI cy (fun i => ad (i + 3)) H.size q16 iB lB aB iC aC q83 e83) (cwV 1 hts (goodV m_ml_X3_108 m_im_X0_nameWord m_se_X0_nameWord m_in_X0 m_cd_X0_nameWord) rfl rfl rfl (by decide +kernel) ⟨Nat.le_of_ble_eq_true rfl, Nat.le_of_ble_eq_true rfl⟩) hN hK hP hD hS hA [3, 4, 5, 6, 7, 8, 9, 10, 11, 12, 13, 14, 15, 16, 17, 18] [none, none, none, some 0, some 1, some 2, some 3, some 4, some 5, some 6, some 7, some 8, some 9, some 10, some 11, some 12, some 13, some 14, some 15] rfl rfl rfl rfl rfl rfl 3 rfl rfl rfl hl.1 rfl (Nat.le_of_ble_eq_true rfl) dX3_printNode_83 ⟨Nat.zero_le _, Nat.zero_le _⟩ (fun H locs hP hD hS => ?_)
    obtain ⟨q86, e86, h⟩ := g_b h
    refine callVvs (cc := cX3_printNode) (w1 := zzP ad cy (ad 3) (us iP [(1, q86.1)]) (us aP [(0, q86.2)]) iB lB aB iC aC) (As := [.long q83]) (rest := []) ⟨hx, hb, hml, hown, hts⟩ (c_P_putWord l dC dI cy ad H.size N q83 iP aP iB lB aB iC aC q86 e86) (cwV 1 hts (goodV m_ml_X3_42 m_im_X3_putWord m_se_X3_putWord m_in_X3 m_cd_X3_putWord) rfl rfl rfl (by decide +kernel) ⟨Nat.le_of_ble_eq_true rfl, Nat.le_of_ble_eq_true rfl⟩) hN hK hP hD hS hA rfl 0 rfl rfl rfl hl.1 rfl (Nat.le_of_ble_eq_true rfl) dX3_printNode_86 ⟨Nat.zero_le _, Nat.zero_le _⟩ (fun H locs hP hD hS => ?_)
    refine lv_goto (tgt := 259) hx hb dX3_printNode_89 (by decide) ?_
    have h' := Option.some.inj h
    rw [← hQQ]
    exact W.vret hx hb hr (fun t ht hW => ⟨⟨(), rfl, trivial, by rw [← hWQ, ← h', ht]; exact hP, va_K.moved hW.alike hK⟩, hS.F ht⟩) hS.2.2 dX3_printNode_259
  · have h := g_f h c0
    rcases Decidable.em (q10 = (1 : Int32)) with c1 | c1
    · have h := g_t h c1
      refine lv_tableIn (off := 63) (tgt := 92) hx hb dX3_printNode_29 (by rw [c1]; decide) (by rw [c1]; decide) (by rw [c1]; rfl) (by decide) ?_
      refine lv_aload_n hx hb dX3_printNode_92 rfl (lv_at hl 4 rfl) ?_
      refine lv_ldc2 (v := 7630704) hx hb hown kc111 dX3_printNode_93 ?_
      obtain ⟨q96, e96, h⟩ := g_b h
      refine callVvs (cc := cX3_printNode) (w1 := zzP ad cy (ad 3) (us iP [(1, q96.1)]) (us aP [(0, q96.2)]) iB lB aB iC aC) (As := [.long ((7630704 : Int64))]) (rest := []) ⟨hx, hb, hml, hown, hts⟩ (c_P_putWord l dC dI cy ad H.size N ((7630704 : Int64)) iP aP iB lB aB iC aC q96 e96) (cwV 1 hts (goodV m_ml_X3_42 m_im_X3_putWord m_se_X3_putWord m_in_X3 m_cd_X3_putWord) rfl rfl rfl (by decide +kernel) ⟨Nat.le_of_ble_eq_true rfl, Nat.le_of_ble_eq_true rfl⟩) hN hK hP hD hS hA rfl 0 rfl rfl rfl hl.1 rfl (Nat.le_of_ble_eq_true rfl) dX3_printNode_96 ⟨Nat.zero_le _, Nat.zero_le _⟩ (fun H locs hP hD hS => ?_)
      refine lv_goto (tgt := 259) hx hb dX3_printNode_99 (by decide) ?_
      have h' := Option.some.inj h
      rw [← hQQ]
      exact W.vret hx hb hr (fun t ht hW => ⟨⟨(), rfl, trivial, by rw [← hWQ, ← h', ht]; exact hP, va_K.moved hW.alike hK⟩, hS.F ht⟩) hS.2.2 dX3_printNode_259
    · have h := g_f h c1
      rcases Decidable.em (q10 = (2 : Int32)) with c2 | c2
      · have h := g_t h c2
        refine lv_tableIn (off := 73) (tgt := 102) hx hb dX3_printNode_29 (by rw [c2]; decide) (by rw [c2]; decide) (by rw [c2]; rfl) (by decide) ?_
        refine lv_aload_n hx hb dX3_printNode_102 rfl (lv_at hl 4 rfl) ?_
        refine lv_ldc2 (v := 108230834679661) hx hb hown kc113 dX3_printNode_103 ?_
        obtain ⟨q106, e106, h⟩ := g_b h
        refine callVvs (cc := cX3_printNode) (w1 := zzP ad cy (ad 3) (us iP [(1, q106.1)]) (us aP [(0, q106.2)]) iB lB aB iC aC) (As := [.long ((108230834679661 : Int64))]) (rest := []) ⟨hx, hb, hml, hown, hts⟩ (c_P_putWord l dC dI cy ad H.size N ((108230834679661 : Int64)) iP aP iB lB aB iC aC q106 e106) (cwV 1 hts (goodV m_ml_X3_42 m_im_X3_putWord m_se_X3_putWord m_in_X3 m_cd_X3_putWord) rfl rfl rfl (by decide +kernel) ⟨Nat.le_of_ble_eq_true rfl, Nat.le_of_ble_eq_true rfl⟩) hN hK hP hD hS hA rfl 0 rfl rfl rfl hl.1 rfl (Nat.le_of_ble_eq_true rfl) dX3_printNode_106 ⟨Nat.zero_le _, Nat.zero_le _⟩ (fun H locs hP hD hS => ?_)
        refine lv_goto (tgt := 259) hx hb dX3_printNode_109 (by decide) ?_
        have h' := Option.some.inj h
        rw [← hQQ]
        exact W.vret hx hb hr (fun t ht hW => ⟨⟨(), rfl, trivial, by rw [← hWQ, ← h', ht]; exact hP, va_K.moved hW.alike hK⟩, hS.F ht⟩) hS.2.2 dX3_printNode_259
      · have h := g_f h c2
        rcases Decidable.em (q10 = (3 : Int32)) with c3 | c3
        · have h := g_t h c3
          refine lv_tableIn (off := 145) (tgt := 174) hx hb dX3_printNode_29 (by rw [c3]; decide) (by rw [c3]; decide) (by rw [c3]; rfl) (by decide) ?_
          refine lv_aload_n hx hb dX3_printNode_174 rfl (lv_at hl 4 rfl) ?_
          refine lv_ldc2 (v := 7237492) hx hb hown kc119 dX3_printNode_175 ?_
          obtain ⟨q178, e178, h⟩ := g_b h
          refine callVvs (cc := cX3_printNode) (w1 := zzP ad cy (ad 3) (us iP [(1, q178.1)]) (us aP [(0, q178.2)]) iB lB aB iC aC) (As := [.long ((7237492 : Int64))]) (rest := []) ⟨hx, hb, hml, hown, hts⟩ (c_P_putBehind l dC dI cy ad H.size N ((7237492 : Int64)) iP aP iB lB aB iC aC q178 e178) (cwV 1 hts (goodV m_ml_X3_66 m_im_X3_putBehind m_se_X3_putBehind m_in_X3 m_cd_X3_putBehind) rfl rfl rfl (by decide +kernel) ⟨Nat.le_of_ble_eq_true rfl, Nat.le_of_ble_eq_true rfl⟩) hN hK hP hD hS hA rfl 0 rfl rfl rfl hl.1 rfl (Nat.le_of_ble_eq_true rfl) dX3_printNode_178 ⟨Nat.zero_le _, Nat.zero_le _⟩ (fun H locs hP hD hS => ?_)
          refine lv_aload_n hx hb dX3_printNode_181 rfl (lv_at hl 4 rfl) ?_
          refine lv_iload hx hb dX3_printNode_182 (lv_at hl 1 rfl) ?_
          refine lv_aload_n hx hb dX3_printNode_184 rfl (lv_at hl 3 rfl) ?_
          refine lv_iload hx hb dX3_printNode_185 (lv_at hl 1 rfl) ?_
          obtain ⟨q187, e187, h⟩ := g_b h
          refine callVi (cc := cX3_printNode) (ws' := zzP ad cy (ad 3) (us iP [(1, q178.1)]) (us aP [(0, q178.2)]) iB lB aB iC aC) (As := [.int q16]) (rest := [.int q16, .ref (ad 0)]) ⟨hx, hb, hml, hown, hts⟩ (c_C_sortOf l dC dI cy (fun i => ad (i + 10)) H.size q16 iC aC q187 e187) (cwV 1 hts (goodV m_ml_X3_103 m_im_X1_sortOf m_se_X1_sortOf m_in_X1 m_cd_X1_sortOf) rfl rfl rfl (by decide +kernel) ⟨Nat.le_of_ble_eq_true rfl, Nat.le_of_ble_eq_true rfl⟩) hN hK hP hD hS hA [10, 11, 12, 13, 14, 15, 16, 17, 18] [none, none, none, none, none, none, none, none, none, none, some 0, some 1, some 2, some 3, some 4, some 5, some 6, some 7, some 8] rfl rfl rfl rfl rfl rfl 10 rfl rfl rfl hl.1 rfl (Nat.le_of_ble_eq_true rfl) dX3_printNode_187 ⟨Nat.zero_le _, Nat.zero_le _⟩ (fun H locs hP hD hS => ?_)
          refine lv_bipush (v := 6) hx hb dX3_printNode_190 (by decide) ?_
          refine lv_icmp_lt (tgt := 199) hx hb dX3_printNode_192 (by decide) (fun cz => ?_) (fun cz => ?_)
          · have h := g_t h cz
            refine lv_iconst (v := 0) hx hb dX3_printNode_199 (by decide) ?_
            exact B200 q16 ((0 : Int32)) q178.1 q178.2 H locs ls h hP hD hS (lv_sub hl [] rfl)
          · have h := g_f h cz
            refine lv_iconst (v := 1) hx hb dX3_printNode_195 (by decide) ?_
            refine lv_goto (tgt := 200) hx hb dX3_printNode_196 (by decide) ?_
            exact B200 q16 ((1 : Int32)) q178.1 q178.2 H locs ls h hP hD hS (lv_sub hl [] rfl)
        · have h := g_f h c3
          rcases Decidable.em (q10 = (4 : Int32)) with c4 | c4
          · have h := g_t h c4
            refine lv_tableIn (off := 177) (tgt := 206) hx hb dX3_printNode_29 (by rw [c4]; decide) (by rw [c4]; decide) (by rw [c4]; rfl) (by decide) ?_
            refine lv_aload_n hx hb dX3_printNode_206 rfl (lv_at hl 4 rfl) ?_
            refine lv_iload_n hx hb dX3_printNode_207 rfl (lv_at hl 2 rfl) ?_
            refine lv_iconst (v := 4) hx hb dX3_printNode_208 (by decide) ?_
            refine lv_icmp_ne (tgt := 218) hx hb dX3_printNode_209 (by decide) (fun cz => ?_) (fun cz => ?_)
            · have h := g_f h cz
              refine lv_ldc2 (v := 435778056825) hx hb hown kc123 dX3_printNode_218 ?_
              exact B221 q16 q23 ((435778056825 : Int64)) H locs ls h hP hD hS (lv_sub hl [4, 3, 1, 0] rfl)
            · have h := g_t h cz
              refine lv_ldc2 (v := 1936682341) hx hb hown kc121 dX3_printNode_212 ?_
              refine lv_goto (tgt := 221) hx hb dX3_printNode_215 (by decide) ?_
              exact B221 q16 q23 ((1936682341 : Int64)) H locs ls h hP hD hS (lv_sub hl [4, 3, 1, 0] rfl)
          · have h := g_f h c4
            rcases Decidable.em (q10 = (5 : Int32)) with c5 | c5
            · have h := g_t h c5
              refine lv_tableIn (off := 177) (tgt := 206) hx hb dX3_printNode_29 (by rw [c5]; decide) (by rw [c5]; decide) (by rw [c5]; rfl) (by decide) ?_
              refine lv_aload_n hx hb dX3_printNode_206 rfl (lv_at hl 4 rfl) ?_
              refine lv_iload_n hx hb dX3_printNode_207 rfl (lv_at hl 2 rfl) ?_
              refine lv_iconst (v := 4) hx hb dX3_printNode_208 (by decide) ?_
              refine lv_icmp_ne (tgt := 218) hx hb dX3_printNode_209 (by decide) (fun cz => ?_) (fun cz => ?_)
              · have h := g_f h cz
                refine lv_ldc2 (v := 435778056825) hx hb hown kc123 dX3_printNode_218 ?_
                exact B221 q16 q23 ((435778056825 : Int64)) H locs ls h hP hD hS (lv_sub hl [4, 3, 1, 0] rfl)
              · have h := g_t h cz
                refine lv_ldc2 (v := 1936682341) hx hb hown kc121 dX3_printNode_212 ?_
                refine lv_goto (tgt := 221) hx hb dX3_printNode_215 (by decide) ?_
                exact B221 q16 q23 ((1936682341 : Int64)) H locs ls h hP hD hS (lv_sub hl [4, 3, 1, 0] rfl)
            · have h := g_f h c5
              rcases Decidable.em (q10 = (6 : Int32)) with c6 | c6
              · have h := g_t h c6
                refine lv_tableIn (off := 83) (tgt := 112) hx hb dX3_printNode_29 (by rw [c6]; decide) (by rw [c6]; decide) (by rw [c6]; rfl) (by decide) ?_
                refine lv_aload_n hx hb dX3_printNode_112 rfl (lv_at hl 4 rfl) ?_
                refine lv_iload hx hb dX3_printNode_113 (lv_at hl 0 rfl) ?_
                refine lv_aload_n hx hb dX3_printNode_115 rfl (lv_at hl 3 rfl) ?_
                refine lv_iload hx hb dX3_printNode_116 (lv_at hl 0 rfl) ?_
                obtain ⟨q118, e118, h⟩ := g_b h
                refine callVi (cc := cX3_printNode) (ws' := zzP ad cy (ad 3) iP aP iB lB aB iC aC) (As := [.int q23]) (rest := [.int q23, .ref (ad 0)]) ⟨hx, hb, hml, hown, hts⟩ (c_C_sortOf l dC dI cy (fun i => ad (i + 10)) H.size q23 iC aC q118 e118) (cwV 1 hts (goodV m_ml_X3_103 m_im_X1_sortOf m_se_X1_sortOf m_in_X1 m_cd_X1_sortOf) rfl rfl rfl (by decide +kernel) ⟨Nat.le_of_ble_eq_true rfl, Nat.le_of_ble_eq_true rfl⟩) hN hK hP hD hS hA [10, 11, 12, 13, 14, 15, 16, 17, 18] [none, none, none, none, none, none, none, none, none, none, some 0, some 1, some 2, some 3, some 4, some 5, some 6, some 7, some 8] rfl rfl rfl rfl rfl rfl 10 rfl rfl rfl hl.1 rfl (Nat.le_of_ble_eq_true rfl) dX3_printNode_118 ⟨Nat.zero_le _, Nat.zero_le _⟩ (fun H locs hP hD hS => ?_)
                refine lv_iload_n hx hb dX3_printNode_121 rfl (lv_at hl 2 rfl) ?_
                refine lv_icmp_lt (tgt := 129) hx hb dX3_printNode_122 (by decide) (fun cz => ?_) (fun cz => ?_)
                · have h := g_t h cz
                  refine lv_iconst (v := 0) hx hb dX3_printNode_129 (by decide) ?_
                  exact B130 q10 q16 q23 ((0 : Int32)) H locs ls h hP hD hS (lv_sub hl [4, 3, 2, 1] rfl)
                · have h := g_f h cz
                  refine lv_iconst (v := 1) hx hb dX3_printNode_125 (by decide) ?_
                  refine lv_goto (tgt := 130) hx hb dX3_printNode_126 (by decide) ?_
                  exact B130 q10 q16 q23 ((1 : Int32)) H locs ls h hP hD hS (lv_sub hl [4, 3, 2, 1] rfl)
              · have h := g_f h c6
                rcases Decidable.em (q10 = (7 : Int32)) with c7 | c7
                · have h := g_t h c7
                  refine lv_tableIn (off := 83) (tgt := 112) hx hb dX3_printNode_29 (by rw [c7]; decide) (by rw [c7]; decide) (by rw [c7]; rfl) (by decide) ?_
                  refine lv_aload_n hx hb dX3_printNode_112 rfl (lv_at hl 4 rfl) ?_
                  refine lv_iload hx hb dX3_printNode_113 (lv_at hl 0 rfl) ?_
                  refine lv_aload_n hx hb dX3_printNode_115 rfl (lv_at hl 3 rfl) ?_
                  refine lv_iload hx hb dX3_printNode_116 (lv_at hl 0 rfl) ?_
                  obtain ⟨q118, e118, h⟩ := g_b h
                  refine callVi (cc := cX3_printNode) (ws' := zzP ad cy (ad 3) iP aP iB lB aB iC aC) (As := [.int q23]) (rest := [.int q23, .ref (ad 0)]) ⟨hx, hb, hml, hown, hts⟩ (c_C_sortOf l dC dI cy (fun i => ad (i + 10)) H.size q23 iC aC q118 e118) (cwV 1 hts (goodV m_ml_X3_103 m_im_X1_sortOf m_se_X1_sortOf m_in_X1 m_cd_X1_sortOf) rfl rfl rfl (by decide +kernel) ⟨Nat.le_of_ble_eq_true rfl, Nat.le_of_ble_eq_true rfl⟩) hN hK hP hD hS hA [10, 11, 12, 13, 14, 15, 16, 17, 18] [none, none, none, none, none, none, none, none, none, none, some 0, some 1, some 2, some 3, some 4, some 5, some 6, some 7, some 8] rfl rfl rfl rfl rfl rfl 10 rfl rfl rfl hl.1 rfl (Nat.le_of_ble_eq_true rfl) dX3_printNode_118 ⟨Nat.zero_le _, Nat.zero_le _⟩ (fun H locs hP hD hS => ?_)
                  refine lv_iload_n hx hb dX3_printNode_121 rfl (lv_at hl 2 rfl) ?_
                  refine lv_icmp_lt (tgt := 129) hx hb dX3_printNode_122 (by decide) (fun cz => ?_) (fun cz => ?_)
                  · have h := g_t h cz
                    refine lv_iconst (v := 0) hx hb dX3_printNode_129 (by decide) ?_
                    exact B130 q10 q16 q23 ((0 : Int32)) H locs ls h hP hD hS (lv_sub hl [4, 3, 2, 1] rfl)
                  · have h := g_f h cz
                    refine lv_iconst (v := 1) hx hb dX3_printNode_125 (by decide) ?_
                    refine lv_goto (tgt := 130) hx hb dX3_printNode_126 (by decide) ?_
                    exact B130 q10 q16 q23 ((1 : Int32)) H locs ls h hP hD hS (lv_sub hl [4, 3, 2, 1] rfl)
                · have h := g_f h c7
                  refine lv_tableOut (tgt := 206) hx hb dX3_printNode_29 (by have z0 := tne (n := 0) (by decide) c0; have z1 := tne (n := 1) (by decide) c1; have z2 := tne (n := 2) (by decide) c2; have z3 := tne (n := 3) (by decide) c3; have z4 := tne (n := 4) (by decide) c4; have z5 := tne (n := 5) (by decide) c5; have z6 := tne (n := 6) (by decide) c6; have z7 := tne (n := 7) (by decide) c7; omega) (by decide) ?_
                  refine lv_aload_n hx hb dX3_printNode_206 rfl (lv_at hl 4 rfl) ?_
                  refine lv_iload_n hx hb dX3_printNode_207 rfl (lv_at hl 2 rfl) ?_
                  refine lv_iconst (v := 4) hx hb dX3_printNode_208 (by decide) ?_
                  refine lv_icmp_ne (tgt := 218) hx hb dX3_printNode_209 (by decide) (fun cz => ?_) (fun cz => ?_)
                  · have h := g_f h cz
                    refine lv_ldc2 (v := 435778056825) hx hb hown kc123 dX3_printNode_218 ?_
                    exact B221 q16 q23 ((435778056825 : Int64)) H locs ls h hP hD hS (lv_sub hl [4, 3, 1, 0] rfl)
                  · have h := g_t h cz
                    refine lv_ldc2 (v := 1936682341) hx hb hown kc121 dX3_printNode_212 ?_
                    refine lv_goto (tgt := 221) hx hb dX3_printNode_215 (by decide) ?_
                    exact B221 q16 q23 ((1936682341 : Int64)) H locs ls h hP hD hS (lv_sub hl [4, 3, 1, 0] rfl)
