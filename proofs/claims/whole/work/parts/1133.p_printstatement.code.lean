def f_P_printStatement_75 (N : Nat) (iB3 : Int32) (iB5 : Int32) (lB2 : Nat → Int64) (lB4 : Nat → Int64) (iC4 : Int32) (aC0 : Nat → Int32) (aC1 : Nat → Int32) (aC2 : Nat → Int32) (iP1 : Int32) (iP4 : Int32) (aP0 : Nat → Int32) (aP3 : Nat → Int32) (v3 : Int32) (s1 : Int64) (x_iP1 : Int32) (x_iP4 : Int32) (x_aP0 : Nat → Int32) (x_aP3 : Nat → Int32) : Option (Int32 × Int32 × (Nat → Int32) × (Nat → Int32)) := (f_P_putBehind N s1 x_iP1 x_aP0).bind fun q75 => ((f_P_printConcept N v3 iB3 iB5 lB2 lB4 iC4 aC0 aC1 aC2 q75.1 x_iP4 q75.2 x_aP3).bind fun q80 => (some (q80.1, q80.2.1, q80.2.2.1, q80.2.2.2)))
def f_P_printStatement (N : Nat) (a1 : Int32) (iB3 : Int32) (iB5 : Int32) (lB2 : Nat → Int64) (lB4 : Nat → Int64) (iC4 : Int32) (aC0 : Nat → Int32) (aC1 : Nat → Int32) (aC2 : Nat → Int32) (iP1 : Int32) (iP4 : Int32) (aP0 : Nat → Int32) (aP3 : Nat → Int32) : Option (Int32 × Int32 × (Nat → Int32) × (Nat → Int32)) := (f_B_leftOf a1).bind fun q1 => ((f_B_rightOf a1).bind fun q6 => ((f_B_sortOf a1).bind fun q11 => (if q11 = (0 : Int32) then ((f_P_printConcept N q1 iB3 iB5 lB2 lB4 iC4 aC0 aC1 aC2 iP1 iP4 aP0 aP3).bind fun q50 => ((f_P_putWord N ((32 : Int64)) q50.1 q50.2.2.1).bind fun q57 => (if q11 = 0 then (f_P_printStatement_75 N iB3 iB5 lB2 lB4 iC4 aC0 aC1 aC2 iP1 iP4 aP0 aP3 q6 ((60 : Int64)) q57.1 q50.2.1 q57.2 q50.2.2.2) else (f_P_printStatement_75 N iB3 iB5 lB2 lB4 iC4 aC0 aC1 aC2 iP1 iP4 aP0 aP3 q6 ((61 : Int64)) q57.1 q50.2.1 q57.2 q50.2.2.2)))) else (if q11 = (1 : Int32) then ((f_P_printConcept N q1 iB3 iB5 lB2 lB4 iC4 aC0 aC1 aC2 iP1 iP4 aP0 aP3).bind fun q50 => ((f_P_putWord N ((32 : Int64)) q50.1 q50.2.2.1).bind fun q57 => (if q11 = 0 then (f_P_printStatement_75 N iB3 iB5 lB2 lB4 iC4 aC0 aC1 aC2 iP1 iP4 aP0 aP3 q6 ((60 : Int64)) q57.1 q50.2.1 q57.2 q50.2.2.2) else (f_P_printStatement_75 N iB3 iB5 lB2 lB4 iC4 aC0 aC1 aC2 iP1 iP4 aP0 aP3 q6 ((61 : Int64)) q57.1 q50.2.1 q57.2 q50.2.2.2)))) else (if q11 = (2 : Int32) then ((f_P_putBehind N ((6386539 : Int64)) iP1 aP0).bind fun q90 => ((f_P_printConcept N q1 iB3 iB5 lB2 lB4 iC4 aC0 aC1 aC2 q90.1 iP4 q90.2 aP3).bind fun q95 => (some (q95.1, q95.2.1, q95.2.2.1, q95.2.2.2)))) else (if q11 = (3 : Int32) then ((f_P_putBehind N ((504363246962 : Int64)) iP1 aP0).bind fun q105 => ((f_B_roleWord q1 iB5 lB4).bind fun q114 => ((f_P_putBehind N q114 q105.1 q105.2).bind fun q117 => ((f_B_roleWord q6 iB5 lB4).bind fun q126 => ((f_P_putWord N q126 q117.1 q117.2).bind fun q129 => (some (q129.1, iP4, q129.2, aP3))))))) else ((f_P_putBehind N ((126896661032037 : Int64)) iP1 aP0).bind fun q139 => ((f_B_roleWord q1 iB5 lB4).bind fun q148 => ((f_P_putWord N q148 q139.1 q139.2).bind fun q151 => (some (q151.1, iP4, q151.2, aP3)))))))))))
set_option maxHeartbeats 8000000 in
set_option maxRecDepth 100000 in
theorem c_P_printStatement (l : Launch) (dC : Nat → ClassId) (dI : Nat → Nat → Nat) (cy : Nat → ClassId) (ad : Nat → Nat) (sz : Nat) (N : Nat) (a1 : Int32) (iP : Nat → Int32) (aP : Nat → Nat → Int32) (iB : Nat → Int32) (lB : Nat → Nat → Int64) (aB : Nat → Nat → Int32) (iC : Nat → Int32) (aC : Nat → Nat → Int32) (q : Int32 × Int32 × (Nat → Int32) × (Nat → Int32)) (h : f_P_printStatement N a1 (iB 3) (iB 5) (lB 2) (lB 4) (iC 4) (aC 0) (aC 1) (aC 2) (iP 1) (iP 4) (aP 0) (aP 3) = some q) : Met l yX3_printStatement wsX3_printStatement ({ frames := 4, cells := 0, slots := 0, locals := 95 } : Room) (cP (dC, dI) cy [.ref (ad 0), .int a1] (zzP ad cy (ad 3) iP aP iB lB aB iC aC) sz) (cQv (dC, dI) cy (zzP ad cy (ad 3) (us iP [(1, q.1), (4, q.2.1)]) (us aP [(0, q.2.2.1), (3, q.2.2.2)]) iB lB aB iC aC) (va_A (zzP ad cy (ad 3) iP aP iB lB aB iC aC) sz)) 0 0 (va_A (zzP ad cy (ad 3) iP aP iB lB aB iC aC) sz) := by
  refine Met.ofW (cc := cX3_printStatement) (maxL := 5) (ret := none) (by decide) rfl ?_
  intro p e s m args below meth c s₁ B hml hv
  obtain ⟨hav, hsz, hP, hK, hD0, hN⟩ := hv
  have hx := B.exec
  have hb := B.bytes
  have hr := B.returns
  have hts := atoms_spec (ws := wsX3_printStatement) B.pre
  have hown : s.vm.findClass RX3 = some m.cls := findClass_of_methodNamed B.named
  have hlocks := B.notSynchronized
  subst hsz
  have hD := hD0.self (sz := s.heap.size)
  generalize hAe : va_A (zzP ad cy (ad 3) iP aP iB lB aB iC aC) s.heap.size = A at hD ⊢
  have hA : ∀ q : Nat, s.heap.size ≤ q → A q := fun q h => by rw [← hAe]; exact Or.inr h
  have hS : va_S A s.heap s.heap [] := va_S.rf
  generalize hWQ : (zzP ad cy (ad 3) (us iP [(1, q.1), (4, q.2.1)]) (us aP [(0, q.2.2.1), (3, q.2.2.2)]) iB lB aB iC aC) = WQ
  generalize hQQ : MQ below (cQv (dC, dI) cy WQ A) args s 0 0 A = QQ
  have hl := lv_entry ([.ref (ad 0), .int a1] : List Value) (n := 5) (Nat.le_of_ble_eq_true rfl)
  have hfr := lg_entry_eq m ([.ref (ad 0), .int a1] : List Value) 5
  rw [← hav] at hfr
  rw [hfr]
  clear hfr hav
  generalize (lg_sl ([.ref (ad 0), .int a1] : List Value) ++ List.replicate (5 - (lg_sl ([.ref (ad 0), .int a1] : List Value)).length) Slot.unset).toArray = ls at hl ⊢
  have hl : lv_has ls 5 [(0, .ref (ad 0)), (1, .int a1)] := hl
  have kc60 := hts _ (List.mem_cons_of_mem _ m_kl_X3_60)
  have kc64 := hts _ (List.mem_cons_of_mem _ m_kl_X3_64)
  have kc62 := hts _ (List.mem_cons_of_mem _ m_kl_X3_62)
  have kc69 := hts _ (List.mem_cons_of_mem _ m_kl_X3_69)
  have kc71 := hts _ (List.mem_cons_of_mem _ m_kl_X3_71)
  have kf19 := hts _ (List.mem_cons_of_mem _ m_fl_X3_19)
  have ki3 := (fun w h => List.mem_cons_of_mem _ (i_X3 w h) : ∀ w ∈ u_ws RX3 TX3 5, w ∈ wsX3_printStatement)
  have kc77 := hts _ (List.mem_cons_of_mem _ m_kl_X3_77)
  refine (?_ : ∀ (H : Heap) (locs : List Loc), va_P (dC, dI) vwCl (zzP ad cy (ad 3) iP aP iB lB aB iC aC) H → va_D A (zzP ad cy (ad 3) iP aP iB lB aB iC aC) → va_S A s.heap H locs → W p l e ({ frames := 4, cells := 0, slots := 0, locals := 95 } : Room) s m args below meth c H locs 0 0 QQ (F0 m 0 ls [])) s.heap [] hP hD hS
  clear hP hD hS
  have B75 : ∀ (v3 : Int32) (s1 : Int64) (x_iP1 : Int32) (x_iP4 : Int32) (x_aP0 : Nat → Int32) (x_aP3 : Nat → Int32) (H : Heap) (locs : List Loc) (ls : Array Slot), f_P_printStatement_75 N (iB 3) (iB 5) (lB 2) (lB 4) (iC 4) (aC 0) (aC 1) (aC 2) (iP 1) (iP 4) (aP 0) (aP 3) v3 s1 x_iP1 x_iP4 x_aP0 x_aP3 = some q → va_P (dC, dI) vwCl (zzP ad cy (ad 3) (us iP [(1, x_iP1), (4, x_iP4)]) (us aP [(0, x_aP0), (3, x_aP3)]) iB lB aB iC aC) H → va_D A (zzP ad cy (ad 3) (us iP [(1, x_iP1), (4, x_iP4)]) (us aP [(0, x_aP0), (3, x_aP3)]) iB lB aB iC aC) → va_S A s.heap H locs → lv_has ls 5 [(0, .ref (ad 0)), (3, .int v3)] → W p l e ({ frames := 4, cells := 0, slots := 0, locals := 95 } : Room) s m args below meth c H locs 0 0 QQ (F0 m 75 ls [.long s1, .ref (ad 0)]) := by
    intro v3 s1 x_iP1 x_iP4 x_aP0 x_aP3 H locs ls h hP hD hS hl
    unfold f_P_printStatement_75 at h
    obtain ⟨q75, e75, h⟩ := g_b h
    refine callVvs (cc := cX3_printStatement) (w1 := zzP ad cy (ad 3) (us iP [(1, q75.1), (4, x_iP4)]) (us aP [(0, q75.2), (3, x_aP3)]) iB lB aB iC aC) (As := [.long s1]) (rest := []) ⟨hx, hb, hml, hown, hts⟩ (c_P_putBehind l dC dI cy ad H.size N s1 ((us iP [(1, x_iP1), (4, x_iP4)])) ((us aP [(0, x_aP0), (3, x_aP3)])) iB lB aB iC aC q75 e75) (cwV 1 hts (goodV m_ml_X3_66 m_im_X3_putBehind m_se_X3_putBehind m_in_X3 m_cd_X3_putBehind) rfl rfl rfl (by decide +kernel) ⟨Nat.le_of_ble_eq_true rfl, Nat.le_of_ble_eq_true rfl⟩) hN hK hP hD hS hA rfl 0 rfl rfl rfl hl.1 rfl (Nat.le_of_ble_eq_true rfl) dX3_printStatement_75 ⟨Nat.zero_le _, Nat.zero_le _⟩ (fun H locs hP hD hS => ?_)
    refine lv_aload_n hx hb dX3_printStatement_78 rfl (lv_at hl 0 rfl) ?_
    refine lv_iload_n hx hb dX3_printStatement_79 rfl (lv_at hl 1 rfl) ?_
    obtain ⟨q80, e80, h⟩ := g_b h
    refine callVvs (cc := cX3_printStatement) (w1 := zzP ad cy (ad 3) (us iP [(1, q80.1), (4, q80.2.1)]) (us aP [(0, q80.2.2.1), (3, q80.2.2.2)]) iB lB aB iC aC) (As := [.int v3]) (rest := []) ⟨hx, hb, hml, hown, hts⟩ (c_P_printConcept l dC dI cy ad H.size N v3 ((us iP [(1, q75.1), (4, x_iP4)])) ((us aP [(0, q75.2), (3, x_aP3)])) iB lB aB iC aC q80 e80) (cwV 1 hts (goodV m_ml_X3_57 m_im_X3_printConcept m_se_X3_printConcept m_in_X3 m_cd_X3_printConcept) rfl rfl rfl (by decide +kernel) ⟨Nat.le_of_ble_eq_true rfl, Nat.le_of_ble_eq_true rfl⟩) hN hK hP hD hS hA rfl 0 rfl rfl rfl hl.1 rfl (Nat.le_of_ble_eq_true rfl) dX3_printStatement_80 ⟨Nat.zero_le _, Nat.zero_le _⟩ (fun H locs hP hD hS => ?_)
    refine lv_goto (tgt := 154) hx hb dX3_printStatement_83 (by decide) ?_
    have h' := Option.some.inj h
    rw [← hQQ]
    exact W.vret hx hb hr (fun t ht hW => ⟨⟨(), rfl, trivial, by rw [← hWQ, ← h', ht]; exact hP, va_K.moved hW.alike hK⟩, hS.F ht⟩) hS.2.2 dX3_printStatement_154
  intro H locs hP hD hS
  unfold f_P_printStatement at h
  refine lv_iload_n hx hb dX3_printStatement_0 rfl (lv_at hl 1 rfl) ?_
  obtain ⟨q1, e1, h⟩ := g_b h
  refine callSi (cc := cX3_printStatement) (ws' := zzP ad cy (ad 3) iP aP iB lB aB iC aC) (As := [.int a1]) (rest := []) ⟨hx, hb, hml, hown, hts⟩ (c_B_leftOf l dC dI cy ad H.size a1 q1 e1) (va_cwS 1 hts (goodS m_ml_X3_48 m_st_X0_leftOf m_in_X0 m_cd_X0_leftOf) rfl rfl rfl (by decide +kernel) ⟨Nat.le_of_ble_eq_true rfl, Nat.le_of_ble_eq_true rfl⟩) hN hK hP hD hS hA [] [none, none, none, none, none, none, none, none, none, none, none, none, none, none, none, none, none, none, none] rfl rfl rfl rfl rfl rfl rfl hl.1 rfl (Nat.le_of_ble_eq_true rfl) dX3_printStatement_1 ⟨Nat.zero_le _, Nat.zero_le _⟩ (fun H locs hP hD hS => ?_)
  refine lv_istore_n (lv' := [(2, .int q1), (0, .ref (ad 0)), (1, .int a1)]) hx hb dX3_printStatement_4 rfl hl (by decide) rfl (fun ls hl => ?_)
  refine lv_iload_n hx hb dX3_printStatement_5 rfl (lv_at hl 2 rfl) ?_
  obtain ⟨q6, e6, h⟩ := g_b h
  refine callSi (cc := cX3_printStatement) (ws' := zzP ad cy (ad 3) iP aP iB lB aB iC aC) (As := [.int a1]) (rest := []) ⟨hx, hb, hml, hown, hts⟩ (c_B_rightOf l dC dI cy ad H.size a1 q6 e6) (va_cwS 1 hts (goodS m_ml_X3_51 m_st_X0_rightOf m_in_X0 m_cd_X0_rightOf) rfl rfl rfl (by decide +kernel) ⟨Nat.le_of_ble_eq_true rfl, Nat.le_of_ble_eq_true rfl⟩) hN hK hP hD hS hA [] [none, none, none, none, none, none, none, none, none, none, none, none, none, none, none, none, none, none, none] rfl rfl rfl rfl rfl rfl rfl hl.1 rfl (Nat.le_of_ble_eq_true rfl) dX3_printStatement_6 ⟨Nat.zero_le _, Nat.zero_le _⟩ (fun H locs hP hD hS => ?_)
  refine lv_istore_n (lv' := [(3, .int q6), (2, .int q1), (0, .ref (ad 0)), (1, .int a1)]) hx hb dX3_printStatement_9 rfl hl (by decide) rfl (fun ls hl => ?_)
  refine lv_iload_n hx hb dX3_printStatement_10 rfl (lv_at hl 3 rfl) ?_
  obtain ⟨q11, e11, h⟩ := g_b h
  refine callSi (cc := cX3_printStatement) (ws' := zzP ad cy (ad 3) iP aP iB lB aB iC aC) (As := [.int a1]) (rest := []) ⟨hx, hb, hml, hown, hts⟩ (c_B_sortOf l dC dI cy ad H.size a1 q11 e11) (va_cwS 1 hts (goodS m_ml_X3_54 m_st_X0_sortOf m_in_X0 m_cd_X0_sortOf) rfl rfl rfl (by decide +kernel) ⟨Nat.le_of_ble_eq_true rfl, Nat.le_of_ble_eq_true rfl⟩) hN hK hP hD hS hA [] [none, none, none, none, none, none, none, none, none, none, none, none, none, none, none, none, none, none, none] rfl rfl rfl rfl rfl rfl rfl hl.1 rfl (Nat.le_of_ble_eq_true rfl) dX3_printStatement_11 ⟨Nat.zero_le _, Nat.zero_le _⟩ (fun H locs hP hD hS => ?_)
  refine lv_istore (lv' := [(4, .int q11), (3, .int q6), (2, .int q1), (0, .ref (ad 0)), (1, .int a1)]) hx hb dX3_printStatement_14 hl (by decide) rfl (fun ls hl => ?_)
  refine lv_iload hx hb dX3_printStatement_16 (lv_at hl 0 rfl) ?_
  rcases Decidable.em (q11 = (0 : Int32)) with c0 | c0
  · have h := g_t h c0
    refine lv_tableIn (off := 30) (tgt := 48) hx hb dX3_printStatement_18 (by rw [c0]; decide) (by rw [c0]; decide) (by rw [c0]; rfl) (by decide) ?_
    refine lv_aload_n hx hb dX3_printStatement_48 rfl (lv_at hl 3 rfl) ?_
    refine lv_iload_n hx hb dX3_printStatement_49 rfl (lv_at hl 2 rfl) ?_
    obtain ⟨q50, e50, h⟩ := g_b h
    refine callVvs (cc := cX3_printStatement) (w1 := zzP ad cy (ad 3) (us iP [(1, q50.1), (4, q50.2.1)]) (us aP [(0, q50.2.2.1), (3, q50.2.2.2)]) iB lB aB iC aC) (As := [.int q1]) (rest := []) ⟨hx, hb, hml, hown, hts⟩ (c_P_printConcept l dC dI cy ad H.size N q1 iP aP iB lB aB iC aC q50 e50) (cwV 1 hts (goodV m_ml_X3_57 m_im_X3_printConcept m_se_X3_printConcept m_in_X3 m_cd_X3_printConcept) rfl rfl rfl (by decide +kernel) ⟨Nat.le_of_ble_eq_true rfl, Nat.le_of_ble_eq_true rfl⟩) hN hK hP hD hS hA rfl 0 rfl rfl rfl hl.1 rfl (Nat.le_of_ble_eq_true rfl) dX3_printStatement_50 ⟨Nat.zero_le _, Nat.zero_le _⟩ (fun H locs hP hD hS => ?_)
    refine lv_aload_n hx hb dX3_printStatement_53 rfl (lv_at hl 3 rfl) ?_
    refine lv_ldc2 (v := 32) hx hb hown kc60 dX3_printStatement_54 ?_
    obtain ⟨q57, e57, h⟩ := g_b h
    refine callVvs (cc := cX3_printStatement) (w1 := zzP ad cy (ad 3) (us iP [(1, q57.1), (4, q50.2.1)]) (us aP [(0, q57.2), (3, q50.2.2.2)]) iB lB aB iC aC) (As := [.long ((32 : Int64))]) (rest := []) ⟨hx, hb, hml, hown, hts⟩ (c_P_putWord l dC dI cy ad H.size N ((32 : Int64)) ((us iP [(1, q50.1), (4, q50.2.1)])) ((us aP [(0, q50.2.2.1), (3, q50.2.2.2)])) iB lB aB iC aC q57 e57) (cwV 1 hts (goodV m_ml_X3_42 m_im_X3_putWord m_se_X3_putWord m_in_X3 m_cd_X3_putWord) rfl rfl rfl (by decide +kernel) ⟨Nat.le_of_ble_eq_true rfl, Nat.le_of_ble_eq_true rfl⟩) hN hK hP hD hS hA rfl 0 rfl rfl rfl hl.1 rfl (Nat.le_of_ble_eq_true rfl) dX3_printStatement_57 ⟨Nat.zero_le _, Nat.zero_le _⟩ (fun H locs hP hD hS => ?_)
    refine lv_aload_n hx hb dX3_printStatement_60 rfl (lv_at hl 3 rfl) ?_
    refine lv_iload hx hb dX3_printStatement_61 (lv_at hl 0 rfl) ?_
    refine lv_if_ne (tgt := 72) hx hb dX3_printStatement_63 (by decide) (fun cz => ?_) (fun cz => ?_)
    · have h := g_f h cz
      refine lv_ldc2 (v := 61) hx hb hown kc64 dX3_printStatement_72 ?_
      exact B75 q6 ((61 : Int64)) q57.1 q50.2.1 q57.2 q50.2.2.2 H locs ls h hP hD hS (lv_sub hl [3, 1] rfl)
    · have h := g_t h cz
      refine lv_ldc2 (v := 60) hx hb hown kc62 dX3_printStatement_66 ?_
      refine lv_goto (tgt := 75) hx hb dX3_printStatement_69 (by decide) ?_
      exact B75 q6 ((60 : Int64)) q57.1 q50.2.1 q57.2 q50.2.2.2 H locs ls h hP hD hS (lv_sub hl [3, 1] rfl)
  · have h := g_f h c0
    rcases Decidable.em (q11 = (1 : Int32)) with c1 | c1
    · have h := g_t h c1
      refine lv_tableIn (off := 30) (tgt := 48) hx hb dX3_printStatement_18 (by rw [c1]; decide) (by rw [c1]; decide) (by rw [c1]; rfl) (by decide) ?_
      refine lv_aload_n hx hb dX3_printStatement_48 rfl (lv_at hl 3 rfl) ?_
      refine lv_iload_n hx hb dX3_printStatement_49 rfl (lv_at hl 2 rfl) ?_
      obtain ⟨q50, e50, h⟩ := g_b h
      refine callVvs (cc := cX3_printStatement) (w1 := zzP ad cy (ad 3) (us iP [(1, q50.1), (4, q50.2.1)]) (us aP [(0, q50.2.2.1), (3, q50.2.2.2)]) iB lB aB iC aC) (As := [.int q1]) (rest := []) ⟨hx, hb, hml, hown, hts⟩ (c_P_printConcept l dC dI cy ad H.size N q1 iP aP iB lB aB iC aC q50 e50) (cwV 1 hts (goodV m_ml_X3_57 m_im_X3_printConcept m_se_X3_printConcept m_in_X3 m_cd_X3_printConcept) rfl rfl rfl (by decide +kernel) ⟨Nat.le_of_ble_eq_true rfl, Nat.le_of_ble_eq_true rfl⟩) hN hK hP hD hS hA rfl 0 rfl rfl rfl hl.1 rfl (Nat.le_of_ble_eq_true rfl) dX3_printStatement_50 ⟨Nat.zero_le _, Nat.zero_le _⟩ (fun H locs hP hD hS => ?_)
      refine lv_aload_n hx hb dX3_printStatement_53 rfl (lv_at hl 3 rfl) ?_
      refine lv_ldc2 (v := 32) hx hb hown kc60 dX3_printStatement_54 ?_
      obtain ⟨q57, e57, h⟩ := g_b h
      refine callVvs (cc := cX3_printStatement) (w1 := zzP ad cy (ad 3) (us iP [(1, q57.1), (4, q50.2.1)]) (us aP [(0, q57.2), (3, q50.2.2.2)]) iB lB aB iC aC) (As := [.long ((32 : Int64))]) (rest := []) ⟨hx, hb, hml, hown, hts⟩ (c_P_putWord l dC dI cy ad H.size N ((32 : Int64)) ((us iP [(1, q50.1), (4, q50.2.1)])) ((us aP [(0, q50.2.2.1), (3, q50.2.2.2)])) iB lB aB iC aC q57 e57) (cwV 1 hts (goodV m_ml_X3_42 m_im_X3_putWord m_se_X3_putWord m_in_X3 m_cd_X3_putWord) rfl rfl rfl (by decide +kernel) ⟨Nat.le_of_ble_eq_true rfl, Nat.le_of_ble_eq_true rfl⟩) hN hK hP hD hS hA rfl 0 rfl rfl rfl hl.1 rfl (Nat.le_of_ble_eq_true rfl) dX3_printStatement_57 ⟨Nat.zero_le _, Nat.zero_le _⟩ (fun H locs hP hD hS => ?_)
      refine lv_aload_n hx hb dX3_printStatement_60 rfl (lv_at hl 3 rfl) ?_
      refine lv_iload hx hb dX3_printStatement_61 (lv_at hl 0 rfl) ?_
      refine lv_if_ne (tgt := 72) hx hb dX3_printStatement_63 (by decide) (fun cz => ?_) (fun cz => ?_)
      · have h := g_f h cz
        refine lv_ldc2 (v := 61) hx hb hown kc64 dX3_printStatement_72 ?_
        exact B75 q6 ((61 : Int64)) q57.1 q50.2.1 q57.2 q50.2.2.2 H locs ls h hP hD hS (lv_sub hl [3, 1] rfl)
      · have h := g_t h cz
        refine lv_ldc2 (v := 60) hx hb hown kc62 dX3_printStatement_66 ?_
        refine lv_goto (tgt := 75) hx hb dX3_printStatement_69 (by decide) ?_
        exact B75 q6 ((60 : Int64)) q57.1 q50.2.1 q57.2 q50.2.2.2 H locs ls h hP hD hS (lv_sub hl [3, 1] rfl)
    · have h := g_f h c1
      rcases Decidable.em (q11 = (2 : Int32)) with c2 | c2
      · have h := g_t h c2
        refine lv_tableIn (off := 68) (tgt := 86) hx hb dX3_printStatement_18 (by rw [c2]; decide) (by rw [c2]; decide) (by rw [c2]; rfl) (by decide) ?_
        refine lv_aload_n hx hb dX3_printStatement_86 rfl (lv_at hl 3 rfl) ?_
        refine lv_ldc2 (v := 6386539) hx hb hown kc69 dX3_printStatement_87 ?_
        obtain ⟨q90, e90, h⟩ := g_b h
        refine callVvs (cc := cX3_printStatement) (w1 := zzP ad cy (ad 3) (us iP [(1, q90.1)]) (us aP [(0, q90.2)]) iB lB aB iC aC) (As := [.long ((6386539 : Int64))]) (rest := []) ⟨hx, hb, hml, hown, hts⟩ (c_P_putBehind l dC dI cy ad H.size N ((6386539 : Int64)) iP aP iB lB aB iC aC q90 e90) (cwV 1 hts (goodV m_ml_X3_66 m_im_X3_putBehind m_se_X3_putBehind m_in_X3 m_cd_X3_putBehind) rfl rfl rfl (by decide +kernel) ⟨Nat.le_of_ble_eq_true rfl, Nat.le_of_ble_eq_true rfl⟩) hN hK hP hD hS hA rfl 0 rfl rfl rfl hl.1 rfl (Nat.le_of_ble_eq_true rfl) dX3_printStatement_90 ⟨Nat.zero_le _, Nat.zero_le _⟩ (fun H locs hP hD hS => ?_)
        refine lv_aload_n hx hb dX3_printStatement_93 rfl (lv_at hl 3 rfl) ?_
        refine lv_iload_n hx hb dX3_printStatement_94 rfl (lv_at hl 2 rfl) ?_
        obtain ⟨q95, e95, h⟩ := g_b h
        refine callVvs (cc := cX3_printStatement) (w1 := zzP ad cy (ad 3) (us iP [(1, q95.1), (4, q95.2.1)]) (us aP [(0, q95.2.2.1), (3, q95.2.2.2)]) iB lB aB iC aC) (As := [.int q1]) (rest := []) ⟨hx, hb, hml, hown, hts⟩ (c_P_printConcept l dC dI cy ad H.size N q1 ((us iP [(1, q90.1)])) ((us aP [(0, q90.2)])) iB lB aB iC aC q95 e95) (cwV 1 hts (goodV m_ml_X3_57 m_im_X3_printConcept m_se_X3_printConcept m_in_X3 m_cd_X3_printConcept) rfl rfl rfl (by decide +kernel) ⟨Nat.le_of_ble_eq_true rfl, Nat.le_of_ble_eq_true rfl⟩) hN hK hP hD hS hA rfl 0 rfl rfl rfl hl.1 rfl (Nat.le_of_ble_eq_true rfl) dX3_printStatement_95 ⟨Nat.zero_le _, Nat.zero_le _⟩ (fun H locs hP hD hS => ?_)
        refine lv_goto (tgt := 154) hx hb dX3_printStatement_98 (by decide) ?_
        have h' := Option.some.inj h
        rw [← hQQ]
        exact W.vret hx hb hr (fun t ht hW => ⟨⟨(), rfl, trivial, by rw [← hWQ, ← h', ht]; exact hP, va_K.moved hW.alike hK⟩, hS.F ht⟩) hS.2.2 dX3_printStatement_154
      · have h := g_f h c2
        rcases Decidable.em (q11 = (3 : Int32)) with c3 | c3
        · have h := g_t h c3
          refine lv_tableIn (off := 83) (tgt := 101) hx hb dX3_printStatement_18 (by rw [c3]; decide) (by rw [c3]; decide) (by rw [c3]; rfl) (by decide) ?_
          refine lv_aload_n hx hb dX3_printStatement_101 rfl (lv_at hl 3 rfl) ?_
          refine lv_ldc2 (v := 504363246962) hx hb hown kc71 dX3_printStatement_102 ?_
          obtain ⟨q105, e105, h⟩ := g_b h
          refine callVvs (cc := cX3_printStatement) (w1 := zzP ad cy (ad 3) (us iP [(1, q105.1)]) (us aP [(0, q105.2)]) iB lB aB iC aC) (As := [.long ((504363246962 : Int64))]) (rest := []) ⟨hx, hb, hml, hown, hts⟩ (c_P_putBehind l dC dI cy ad H.size N ((504363246962 : Int64)) iP aP iB lB aB iC aC q105 e105) (cwV 1 hts (goodV m_ml_X3_66 m_im_X3_putBehind m_se_X3_putBehind m_in_X3 m_cd_X3_putBehind) rfl rfl rfl (by decide +kernel) ⟨Nat.le_of_ble_eq_true rfl, Nat.le_of_ble_eq_true rfl⟩) hN hK hP hD hS hA rfl 0 rfl rfl rfl hl.1 rfl (Nat.le_of_ble_eq_true rfl) dX3_printStatement_105 ⟨Nat.zero_le _, Nat.zero_le _⟩ (fun H locs hP hD hS => ?_)
          refine lv_aload_n hx hb dX3_printStatement_108 rfl (lv_at hl 3 rfl) ?_
          refine lv_aload_n hx hb dX3_printStatement_109 rfl (lv_at hl 3 rfl) ?_
          refine va_get (D := (dC, dI)) (ci := 3) (v := .ref (ad 3)) (C := RX3) (T := TX3) (N := 5) hx hb hts ki3 hown hK hP 0 rfl rfl 2 (by decide) kf19 (fun _ h9 => h9) rfl dX3_printStatement_110 ?_
          refine lv_iload_n hx hb dX3_printStatement_113 rfl (lv_at hl 2 rfl) ?_
          obtain ⟨q114, e114, h⟩ := g_b h
          refine callVl (cc := cX3_printStatement) (ws' := zzP ad cy (ad 3) (us iP [(1, q105.1)]) (us aP [(0, q105.2)]) iB lB aB iC aC) (As := [.int q1]) (rest := [.ref (ad 0)]) ⟨hx, hb, hml, hown, hts⟩ (c_B_roleWord l dC dI cy (fun i => ad (i + 3)) H.size q1 iB lB aB iC aC q114 e114) (cwV 1 hts (goodV m_ml_X3_73 m_im_X0_roleWord m_se_X0_roleWord m_in_X0 m_cd_X0_roleWord) rfl rfl rfl (by decide +kernel) ⟨Nat.le_of_ble_eq_true rfl, Nat.le_of_ble_eq_true rfl⟩) hN hK hP hD hS hA [3, 4, 5, 6, 7, 8, 9, 10, 11, 12, 13, 14, 15, 16, 17, 18] [none, none, none, some 0, some 1, some 2, some 3, some 4, some 5, some 6, some 7, some 8, some 9, some 10, some 11, some 12, some 13, some 14, some 15] rfl rfl rfl rfl rfl rfl 3 rfl rfl rfl hl.1 rfl (Nat.le_of_ble_eq_true rfl) dX3_printStatement_114 ⟨Nat.zero_le _, Nat.zero_le _⟩ (fun H locs hP hD hS => ?_)
          obtain ⟨q117, e117, h⟩ := g_b h
          refine callVvs (cc := cX3_printStatement) (w1 := zzP ad cy (ad 3) (us iP [(1, q117.1)]) (us aP [(0, q117.2)]) iB lB aB iC aC) (As := [.long q114]) (rest := []) ⟨hx, hb, hml, hown, hts⟩ (c_P_putBehind l dC dI cy ad H.size N q114 ((us iP [(1, q105.1)])) ((us aP [(0, q105.2)])) iB lB aB iC aC q117 e117) (cwV 1 hts (goodV m_ml_X3_66 m_im_X3_putBehind m_se_X3_putBehind m_in_X3 m_cd_X3_putBehind) rfl rfl rfl (by decide +kernel) ⟨Nat.le_of_ble_eq_true rfl, Nat.le_of_ble_eq_true rfl⟩) hN hK hP hD hS hA rfl 0 rfl rfl rfl hl.1 rfl (Nat.le_of_ble_eq_true rfl) dX3_printStatement_117 ⟨Nat.zero_le _, Nat.zero_le _⟩ (fun H locs hP hD hS => ?_)
          refine lv_aload_n hx hb dX3_printStatement_120 rfl (lv_at hl 3 rfl) ?_
          refine lv_aload_n hx hb dX3_printStatement_121 rfl (lv_at hl 3 rfl) ?_
          refine va_get (D := (dC, dI)) (ci := 3) (v := .ref (ad 3)) (C := RX3) (T := TX3) (N := 5) hx hb hts ki3 hown hK hP 0 rfl rfl 2 (by decide) kf19 (fun _ h9 => h9) rfl dX3_printStatement_122 ?_
          refine lv_iload_n hx hb dX3_printStatement_125 rfl (lv_at hl 1 rfl) ?_
          obtain ⟨q126, e126, h⟩ := g_b h
          refine callVl (cc := cX3_printStatement) (ws' := zzP ad cy (ad 3) (us iP [(1, q117.1)]) (us aP [(0, q117.2)]) iB lB aB iC aC) (As := [.int q6]) (rest := [.ref (ad 0)]) ⟨hx, hb, hml, hown, hts⟩ (c_B_roleWord l dC dI cy (fun i => ad (i + 3)) H.size q6 iB lB aB iC aC q126 e126) (cwV 1 hts (goodV m_ml_X3_73 m_im_X0_roleWord m_se_X0_roleWord m_in_X0 m_cd_X0_roleWord) rfl rfl rfl (by decide +kernel) ⟨Nat.le_of_ble_eq_true rfl, Nat.le_of_ble_eq_true rfl⟩) hN hK hP hD hS hA [3, 4, 5, 6, 7, 8, 9, 10, 11, 12, 13, 14, 15, 16, 17, 18] [none, none, none, some 0, some 1, some 2, some 3, some 4, some 5, some 6, some 7, some 8, some 9, some 10, some 11, some 12, some 13, some 14, some 15] rfl rfl rfl rfl rfl rfl 3 rfl rfl rfl hl.1 rfl (Nat.le_of_ble_eq_true rfl) dX3_printStatement_126 ⟨Nat.zero_le _, Nat.zero_le _⟩ (fun H locs hP hD hS => ?_)
          obtain ⟨q129, e129, h⟩ := g_b h
          refine callVvs (cc := cX3_printStatement) (w1 := zzP ad cy (ad 3) (us iP [(1, q129.1)]) (us aP [(0, q129.2)]) iB lB aB iC aC) (As := [.long q126]) (rest := []) ⟨hx, hb, hml, hown, hts⟩ (c_P_putWord l dC dI cy ad H.size N q126 ((us iP [(1, q117.1)])) ((us aP [(0, q117.2)])) iB lB aB iC aC q129 e129) (cwV 1 hts (goodV m_ml_X3_42 m_im_X3_putWord m_se_X3_putWord m_in_X3 m_cd_X3_putWord) rfl rfl rfl (by decide +kernel) ⟨Nat.le_of_ble_eq_true rfl, Nat.le_of_ble_eq_true rfl⟩) hN hK hP hD hS hA rfl 0 rfl rfl rfl hl.1 rfl (Nat.le_of_ble_eq_true rfl) dX3_printStatement_129 ⟨Nat.zero_le _, Nat.zero_le _⟩ (fun H locs hP hD hS => ?_)
          refine lv_goto (tgt := 154) hx hb dX3_printStatement_132 (by decide) ?_
          have h' := Option.some.inj h
          rw [← hQQ]
          exact W.vret hx hb hr (fun t ht hW => ⟨⟨(), rfl, trivial, by rw [← hWQ, ← h', ht]; exact hP, va_K.moved hW.alike hK⟩, hS.F ht⟩) hS.2.2 dX3_printStatement_154
        · have h := g_f h c3
          refine lv_tableOut (tgt := 135) hx hb dX3_printStatement_18 (by have z0 := tne (n := 0) (by decide) c0; have z1 := tne (n := 1) (by decide) c1; have z2 := tne (n := 2) (by decide) c2; have z3 := tne (n := 3) (by decide) c3; omega) (by decide) ?_
          refine lv_aload_n hx hb dX3_printStatement_135 rfl (lv_at hl 3 rfl) ?_
          refine lv_ldc2 (v := 126896661032037) hx hb hown kc77 dX3_printStatement_136 ?_
          obtain ⟨q139, e139, h⟩ := g_b h
          refine callVvs (cc := cX3_printStatement) (w1 := zzP ad cy (ad 3) (us iP [(1, q139.1)]) (us aP [(0, q139.2)]) iB lB aB iC aC) (As := [.long ((126896661032037 : Int64))]) (rest := []) ⟨hx, hb, hml, hown, hts⟩ (c_P_putBehind l dC dI cy ad H.size N ((126896661032037 : Int64)) iP aP iB lB aB iC aC q139 e139) (cwV 1 hts (goodV m_ml_X3_66 m_im_X3_putBehind m_se_X3_putBehind m_in_X3 m_cd_X3_putBehind) rfl rfl rfl (by decide +kernel) ⟨Nat.le_of_ble_eq_true rfl, Nat.le_of_ble_eq_true rfl⟩) hN hK hP hD hS hA rfl 0 rfl rfl rfl hl.1 rfl (Nat.le_of_ble_eq_true rfl) dX3_printStatement_139 ⟨Nat.zero_le _, Nat.zero_le _⟩ (fun H locs hP hD hS => ?_)
          refine lv_aload_n hx hb dX3_printStatement_142 rfl (lv_at hl 3 rfl) ?_
          refine lv_aload_n hx hb dX3_printStatement_143 rfl (lv_at hl 3 rfl) ?_
          refine va_get (D := (dC, dI)) (ci := 3) (v := .ref (ad 3)) (C := RX3) (T := TX3) (N := 5) hx hb hts ki3 hown hK hP 0 rfl rfl 2 (by decide) kf19 (fun _ h9 => h9) rfl dX3_printStatement_144 ?_
          refine lv_iload_n hx hb dX3_printStatement_147 rfl (lv_at hl 2 rfl) ?_
          obtain ⟨q148, e148, h⟩ := g_b h
          refine callVl (cc := cX3_printStatement) (ws' := zzP ad cy (ad 3) (us iP [(1, q139.1)]) (us aP [(0, q139.2)]) iB lB aB iC aC) (As := [.int q1]) (rest := [.ref (ad 0)]) ⟨hx, hb, hml, hown, hts⟩ (c_B_roleWord l dC dI cy (fun i => ad (i + 3)) H.size q1 iB lB aB iC aC q148 e148) (cwV 1 hts (goodV m_ml_X3_73 m_im_X0_roleWord m_se_X0_roleWord m_in_X0 m_cd_X0_roleWord) rfl rfl rfl (by decide +kernel) ⟨Nat.le_of_ble_eq_true rfl, Nat.le_of_ble_eq_true rfl⟩) hN hK hP hD hS hA [3, 4, 5, 6, 7, 8, 9, 10, 11, 12, 13, 14, 15, 16, 17, 18] [none, none, none, some 0, some 1, some 2, some 3, some 4, some 5, some 6, some 7, some 8, some 9, some 10, some 11, some 12, some 13, some 14, some 15] rfl rfl rfl rfl rfl rfl 3 rfl rfl rfl hl.1 rfl (Nat.le_of_ble_eq_true rfl) dX3_printStatement_148 ⟨Nat.zero_le _, Nat.zero_le _⟩ (fun H locs hP hD hS => ?_)
          obtain ⟨q151, e151, h⟩ := g_b h
          refine callVvs (cc := cX3_printStatement) (w1 := zzP ad cy (ad 3) (us iP [(1, q151.1)]) (us aP [(0, q151.2)]) iB lB aB iC aC) (As := [.long q148]) (rest := []) ⟨hx, hb, hml, hown, hts⟩ (c_P_putWord l dC dI cy ad H.size N q148 ((us iP [(1, q139.1)])) ((us aP [(0, q139.2)])) iB lB aB iC aC q151 e151) (cwV 1 hts (goodV m_ml_X3_42 m_im_X3_putWord m_se_X3_putWord m_in_X3 m_cd_X3_putWord) rfl rfl rfl (by decide +kernel) ⟨Nat.le_of_ble_eq_true rfl, Nat.le_of_ble_eq_true rfl⟩) hN hK hP hD hS hA rfl 0 rfl rfl rfl hl.1 rfl (Nat.le_of_ble_eq_true rfl) dX3_printStatement_151 ⟨Nat.zero_le _, Nat.zero_le _⟩ (fun H locs hP hD hS => ?_)
          have h' := Option.some.inj h
          rw [← hQQ]
          exact W.vret hx hb hr (fun t ht hW => ⟨⟨(), rfl, trivial, by rw [← hWQ, ← h', ht]; exact hP, va_K.moved hW.alike hK⟩, hS.F ht⟩) hS.2.2 dX3_printStatement_154
