def f_P_printBook_12 (N : Nat) (iB3 : Int32) (iB5 : Int32) (iB7 : Int32) (lB2 : Nat → Int64) (lB4 : Nat → Int64) (aB6 : Nat → Int32) (iC4 : Int32) (aC0 : Nat → Int32) (aC1 : Nat → Int32) (aC2 : Nat → Int32) (iP1 : Int32) (iP4 : Int32) (aP0 : Nat → Int32) (aP3 : Nat → Int32)  : Nat → Int32 → Int32 → Int32 → (Nat → Int32) → (Nat → Int32) → Option (Int32 × Int32 × (Nat → Int32) × (Nat → Int32))
  | 0, _, _, _, _, _ => none
  | n + 1, v2, x_iP1, x_iP4, x_aP0, x_aP3 => if iB7 ≤ v2 then (some (x_iP1, x_iP4, x_aP0, x_aP3)) else ((f_B_statement v2 iB7 aB6).bind fun q29 => ((f_P_printStatement N q29 iB3 iB5 lB2 lB4 iC4 aC0 aC1 aC2 x_iP1 x_iP4 x_aP0 x_aP3).bind fun q32 => ((f_P_putWord N ((59 : Int64)) q32.1 q32.2.2.1).bind fun q39 => ((f_P_putWord N ((10 : Int64)) q39.1 q39.2).bind fun q46 => (f_P_printBook_12 N iB3 iB5 iB7 lB2 lB4 aB6 iC4 aC0 aC1 aC2 iP1 iP4 aP0 aP3 n ((v2 + (1 : Int32))) q46.1 q32.2.1 q46.2 q32.2.2.2)))))
def f_P_printBook (N : Nat) (iB3 : Int32) (iB5 : Int32) (iB7 : Int32) (lB2 : Nat → Int64) (lB4 : Nat → Int64) (aB6 : Nat → Int32) (iC4 : Int32) (aC0 : Nat → Int32) (aC1 : Nat → Int32) (aC2 : Nat → Int32) (iP1 : Int32) (iP4 : Int32) (aP0 : Nat → Int32) (aP3 : Nat → Int32) : Option (Int32 × Int32 × (Nat → Int32) × (Nat → Int32)) := f_P_printBook_12 N iB3 iB5 iB7 lB2 lB4 aB6 iC4 aC0 aC1 aC2 iP1 iP4 aP0 aP3 N ((0 : Int32)) ((0 : Int32)) iP4 aP0 aP3
set_option maxHeartbeats 8000000 in
set_option maxRecDepth 100000 in
theorem c_P_printBook (l : Launch) (dC : Nat → ClassId) (dI : Nat → Nat → Nat) (cy : Nat → ClassId) (ad : Nat → Nat) (sz : Nat) (pb : Nat) (N : Nat) (iP : Nat → Int32) (aP : Nat → Nat → Int32) (iB : Nat → Int32) (lB : Nat → Nat → Int64) (aB : Nat → Nat → Int32) (iC : Nat → Int32) (aC : Nat → Nat → Int32) (q : Int32 × Int32 × (Nat → Int32) × (Nat → Int32)) (h : f_P_printBook N (iB 3) (iB 5) (iB 7) (lB 2) (lB 4) (aB 6) (iC 4) (aC 0) (aC 1) (aC 2) (iP 1) (iP 4) (aP 0) (aP 3) = some q) : Met l yX3_printBook wsX3_printBook ({ frames := 5, cells := 0, slots := 0, locals := 119 } : Room) (cP (dC, dI) cy [.ref (ad 0), .ref (ad 3)] (zzP ad cy pb iP aP iB lB aB iC aC) sz) (cQv (dC, dI) cy (zzP ad cy (ad 3) (us iP [(1, q.1), (4, q.2.1)]) (us aP [(0, q.2.2.1), (3, q.2.2.2)]) iB lB aB iC aC) (va_A (zzP ad cy pb iP aP iB lB aB iC aC) sz)) 0 0 (va_A (zzP ad cy pb iP aP iB lB aB iC aC) sz) := by
  refine Met.ofW (cc := cX3_printBook) (maxL := 3) (ret := none) (by decide) rfl ?_
  intro p e s m args below meth c s₁ B hml hv
  obtain ⟨hav, hsz, hP, hK, hD0, hN⟩ := hv
  have hx := B.exec
  have hb := B.bytes
  have hr := B.returns
  have hts := atoms_spec (ws := wsX3_printBook) B.pre
  have hown : s.vm.findClass RX3 = some m.cls := findClass_of_methodNamed B.named
  have hlocks := B.notSynchronized
  subst hsz
  have hD := hD0.self (sz := s.heap.size)
  generalize hAe : va_A (zzP ad cy pb iP aP iB lB aB iC aC) s.heap.size = A at hD ⊢
  have hA : ∀ q : Nat, s.heap.size ≤ q → A q := fun q h => by rw [← hAe]; exact Or.inr h
  have hS : va_S A s.heap s.heap [] := va_S.rf
  generalize hWQ : (zzP ad cy (ad 3) (us iP [(1, q.1), (4, q.2.1)]) (us aP [(0, q.2.2.1), (3, q.2.2.2)]) iB lB aB iC aC) = WQ
  generalize hQQ : MQ below (cQv (dC, dI) cy WQ A) args s 0 0 A = QQ
  have hl := lv_entry ([.ref (ad 0), .ref (ad 3)] : List Value) (n := 3) (Nat.le_of_ble_eq_true rfl)
  have hfr := lg_entry_eq m ([.ref (ad 0), .ref (ad 3)] : List Value) 3
  rw [← hav] at hfr
  rw [hfr]
  clear hfr hav
  generalize (lg_sl ([.ref (ad 0), .ref (ad 3)] : List Value) ++ List.replicate (3 - (lg_sl ([.ref (ad 0), .ref (ad 3)] : List Value)).length) Slot.unset).toArray = ls at hl ⊢
  have hl : lv_has ls 3 [(0, .ref (ad 0)), (1, .ref (ad 3))] := hl
  have kf19 := hts _ (List.mem_cons_of_mem _ m_fl_X3_19)
  have ki3 := (fun w h => List.mem_cons_of_mem _ (i_X3 w h) : ∀ w ∈ u_ws RX3 TX3 5, w ∈ wsX3_printBook)
  have kf27 := hts _ (List.mem_cons_of_mem _ m_fl_X3_27)
  have ki0 := (fun w h => List.mem_cons_of_mem _ (i_X0 w h) : ∀ w ∈ u_ws RX0 TX0 15, w ∈ wsX3_printBook)
  have kc40 := hts _ (List.mem_cons_of_mem _ m_kl_X3_40)
  have kc46 := hts _ (List.mem_cons_of_mem _ m_kl_X3_46)
  have kf23 := hts _ (List.mem_cons_of_mem _ m_fl_X3_23)
  refine (?_ : ∀ (H : Heap) (locs : List Loc), va_P (dC, dI) vwCl (zzP ad cy pb iP aP iB lB aB iC aC) H → va_D A (zzP ad cy pb iP aP iB lB aB iC aC) → va_S A s.heap H locs → W p l e ({ frames := 5, cells := 0, slots := 0, locals := 119 } : Room) s m args below meth c H locs 0 0 QQ (F0 m 0 ls [])) s.heap [] hP hD hS
  clear hP hD hS
  have B12 : ∀ (n : Nat) (v2 : Int32) (x_iP1 : Int32) (x_iP4 : Int32) (x_aP0 : Nat → Int32) (x_aP3 : Nat → Int32) (H : Heap) (locs : List Loc) (ls : Array Slot), f_P_printBook_12 N (iB 3) (iB 5) (iB 7) (lB 2) (lB 4) (aB 6) (iC 4) (aC 0) (aC 1) (aC 2) (iP 1) (iP 4) (aP 0) (aP 3) n v2 x_iP1 x_iP4 x_aP0 x_aP3 = some q → va_P (dC, dI) vwCl (zzP ad cy (ad 3) (us iP [(1, x_iP1), (4, x_iP4)]) (us aP [(0, x_aP0), (3, x_aP3)]) iB lB aB iC aC) H → va_D A (zzP ad cy (ad 3) (us iP [(1, x_iP1), (4, x_iP4)]) (us aP [(0, x_aP0), (3, x_aP3)]) iB lB aB iC aC) → va_S A s.heap H locs → lv_has ls 3 [(0, .ref (ad 0)), (2, .int v2)] → W p l e ({ frames := 5, cells := 0, slots := 0, locals := 119 } : Room) s m args below meth c H locs 0 0 QQ (F0 m 12 ls []) := by
    intro n
    induction n with
    | zero =>
      intro v2 x_iP1 x_iP4 x_aP0 x_aP3 H locs ls h hP hD hS hl
      rw [f_P_printBook_12] at h
      cases h
    | succ n ih =>
      intro v2 x_iP1 x_iP4 x_aP0 x_aP3 H locs ls h hP hD hS hl
      rw [f_P_printBook_12] at h
      refine lv_iload_n hx hb dX3_printBook_12 rfl (lv_at hl 1 rfl) ?_
      refine lv_aload_n hx hb dX3_printBook_13 rfl (lv_at hl 0 rfl) ?_
      refine va_get (D := (dC, dI)) (ci := 3) (v := .ref (ad 3)) (C := RX3) (T := TX3) (N := 5) hx hb hts ki3 hown hK hP 0 rfl rfl 2 (by decide) kf19 (fun _ h9 => h9) rfl dX3_printBook_14 ?_
      refine va_get (D := (dC, dI)) (ci := 0) (v := .int (iB 7)) (C := RX0) (T := TX0) (N := 15) hx hb hts ki0 hown hK hP 3 rfl rfl 7 (by decide) kf27 (fun _ h9 => h9) rfl dX3_printBook_17 ?_
      refine lv_icmp_ge (tgt := 55) hx hb dX3_printBook_20 (by decide) (fun cz => ?_) (fun cz => ?_)
      · have h := g_t h cz
        have h' := Option.some.inj h
        rw [← hQQ]
        exact W.vret hx hb hr (fun t ht hW => ⟨⟨(), rfl, trivial, by rw [← hWQ, ← h', ht]; exact hP, va_K.moved hW.alike hK⟩, hS.F ht⟩) hS.2.2 dX3_printBook_55
      · have h := g_f h cz
        refine lv_aload_n hx hb dX3_printBook_23 rfl (lv_at hl 0 rfl) ?_
        refine lv_aload_n hx hb dX3_printBook_24 rfl (lv_at hl 0 rfl) ?_
        refine va_get (D := (dC, dI)) (ci := 3) (v := .ref (ad 3)) (C := RX3) (T := TX3) (N := 5) hx hb hts ki3 hown hK hP 0 rfl rfl 2 (by decide) kf19 (fun _ h9 => h9) rfl dX3_printBook_25 ?_
        refine lv_iload_n hx hb dX3_printBook_28 rfl (lv_at hl 1 rfl) ?_
        obtain ⟨q29, e29, h⟩ := g_b h
        refine callVi (cc := cX3_printBook) (ws' := zzP ad cy (ad 3) (us iP [(1, x_iP1), (4, x_iP4)]) (us aP [(0, x_aP0), (3, x_aP3)]) iB lB aB iC aC) (As := [.int v2]) (rest := [.ref (ad 0)]) ⟨hx, hb, hml, hown, hts⟩ (c_B_statement l dC dI cy (fun i => ad (i + 3)) H.size v2 iB lB aB iC aC q29 e29) (cwV 1 hts (goodV m_ml_X3_32 m_im_X0_statement m_se_X0_statement m_in_X0 m_cd_X0_statement) rfl rfl rfl (by decide +kernel) ⟨Nat.le_of_ble_eq_true rfl, Nat.le_of_ble_eq_true rfl⟩) hN hK hP hD hS hA [3, 4, 5, 6, 7, 8, 9, 10, 11, 12, 13, 14, 15, 16, 17, 18] [none, none, none, some 0, some 1, some 2, some 3, some 4, some 5, some 6, some 7, some 8, some 9, some 10, some 11, some 12, some 13, some 14, some 15] rfl rfl rfl rfl rfl rfl 3 rfl rfl rfl hl.1 rfl (Nat.le_of_ble_eq_true rfl) dX3_printBook_29 ⟨Nat.zero_le _, Nat.zero_le _⟩ (fun H locs hP hD hS => ?_)
        obtain ⟨q32, e32, h⟩ := g_b h
        refine callVvs (cc := cX3_printBook) (w1 := zzP ad cy (ad 3) (us iP [(1, q32.1), (4, q32.2.1)]) (us aP [(0, q32.2.2.1), (3, q32.2.2.2)]) iB lB aB iC aC) (As := [.int q29]) (rest := []) ⟨hx, hb, hml, hown, hts⟩ (c_P_printStatement l dC dI cy ad H.size N q29 ((us iP [(1, x_iP1), (4, x_iP4)])) ((us aP [(0, x_aP0), (3, x_aP3)])) iB lB aB iC aC q32 e32) (cwV 1 hts (goodV m_ml_X3_36 m_im_X3_printStatement m_se_X3_printStatement m_in_X3 m_cd_X3_printStatement) rfl rfl rfl (by decide +kernel) ⟨Nat.le_of_ble_eq_true rfl, Nat.le_of_ble_eq_true rfl⟩) hN hK hP hD hS hA rfl 0 rfl rfl rfl hl.1 rfl (Nat.le_of_ble_eq_true rfl) dX3_printBook_32 ⟨Nat.zero_le _, Nat.zero_le _⟩ (fun H locs hP hD hS => ?_)
        refine lv_aload_n hx hb dX3_printBook_35 rfl (lv_at hl 0 rfl) ?_
        refine lv_ldc2 (v := 59) hx hb hown kc40 dX3_printBook_36 ?_
        obtain ⟨q39, e39, h⟩ := g_b h
        refine callVvs (cc := cX3_printBook) (w1 := zzP ad cy (ad 3) (us iP [(1, q39.1), (4, q32.2.1)]) (us aP [(0, q39.2), (3, q32.2.2.2)]) iB lB aB iC aC) (As := [.long ((59 : Int64))]) (rest := []) ⟨hx, hb, hml, hown, hts⟩ (c_P_putWord l dC dI cy ad H.size N ((59 : Int64)) ((us iP [(1, q32.1), (4, q32.2.1)])) ((us aP [(0, q32.2.2.1), (3, q32.2.2.2)])) iB lB aB iC aC q39 e39) (cwV 1 hts (goodV m_ml_X3_42 m_im_X3_putWord m_se_X3_putWord m_in_X3 m_cd_X3_putWord) rfl rfl rfl (by decide +kernel) ⟨Nat.le_of_ble_eq_true rfl, Nat.le_of_ble_eq_true rfl⟩) hN hK hP hD hS hA rfl 0 rfl rfl rfl hl.1 rfl (Nat.le_of_ble_eq_true rfl) dX3_printBook_39 ⟨Nat.zero_le _, Nat.zero_le _⟩ (fun H locs hP hD hS => ?_)
        refine lv_aload_n hx hb dX3_printBook_42 rfl (lv_at hl 0 rfl) ?_
        refine lv_ldc2 (v := 10) hx hb hown kc46 dX3_printBook_43 ?_
        obtain ⟨q46, e46, h⟩ := g_b h
        refine callVvs (cc := cX3_printBook) (w1 := zzP ad cy (ad 3) (us iP [(1, q46.1), (4, q32.2.1)]) (us aP [(0, q46.2), (3, q32.2.2.2)]) iB lB aB iC aC) (As := [.long ((10 : Int64))]) (rest := []) ⟨hx, hb, hml, hown, hts⟩ (c_P_putWord l dC dI cy ad H.size N ((10 : Int64)) ((us iP [(1, q39.1), (4, q32.2.1)])) ((us aP [(0, q39.2), (3, q32.2.2.2)])) iB lB aB iC aC q46 e46) (cwV 1 hts (goodV m_ml_X3_42 m_im_X3_putWord m_se_X3_putWord m_in_X3 m_cd_X3_putWord) rfl rfl rfl (by decide +kernel) ⟨Nat.le_of_ble_eq_true rfl, Nat.le_of_ble_eq_true rfl⟩) hN hK hP hD hS hA rfl 0 rfl rfl rfl hl.1 rfl (Nat.le_of_ble_eq_true rfl) dX3_printBook_46 ⟨Nat.zero_le _, Nat.zero_le _⟩ (fun H locs hP hD hS => ?_)
        refine lv_iinc (v := (v2 + (1 : Int32))) (lv' := [(2, .int ((v2 + (1 : Int32)))), (0, .ref (ad 0))]) hx hb dX3_printBook_49 hl (k := 1) rfl rfl (by decide) rfl (fun ls hl => ?_)
        refine lv_goto (tgt := 12) hx hb dX3_printBook_52 (by decide) ?_
        exact ih ((v2 + (1 : Int32))) q46.1 q32.2.1 q46.2 q32.2.2.2 H locs ls h hP hD hS (lv_sub hl [1, 0] rfl)
  intro H locs hP hD hS
  unfold f_P_printBook at h
  refine lv_aload_n hx hb dX3_printBook_0 rfl (lv_at hl 0 rfl) ?_
  refine lv_aload_n hx hb dX3_printBook_1 rfl (lv_at hl 1 rfl) ?_
  refine va_put (D := (dC, dI)) (ci := 3) (v := .ref (ad 3)) (ty := (.object "TypeCourt$Book")) (C := RX3) (T := TX3) (N := 5) hx hb hts ki3 tyX3 tyX3_ok nmX3 hown hK hP hD hS 0 rfl rfl 2 (by decide) kf19 (fun _ h9 => h9) rfl (by decide +kernel) rfl rfl (Nat.le_of_ble_eq_true rfl) dX3_printBook_2 (fun H locs hP hD hS => ?_)
  have hP : va_P (dC, dI) vwCl (zzP ad cy (ad 3) iP aP iB lB aB iC aC) H := hP
  have hD : va_D A (zzP ad cy (ad 3) iP aP iB lB aB iC aC) := hD
  refine lv_aload_n hx hb dX3_printBook_5 rfl (lv_at hl 0 rfl) ?_
  refine lv_iconst (v := 0) hx hb dX3_printBook_6 (by decide) ?_
  refine va_put (D := (dC, dI)) (ci := 3) (v := .int ((0 : Int32))) (ty := .int) (C := RX3) (T := TX3) (N := 5) hx hb hts ki3 tyX3 tyX3_ok nmX3 hown hK hP hD hS 0 rfl rfl 1 (by decide) kf23 (fun _ h9 => h9) rfl (by decide +kernel) rfl rfl (Nat.le_of_ble_eq_true rfl) dX3_printBook_7 (fun H locs hP hD hS => ?_)
  have hP : va_P (dC, dI) vwCl (zzP ad cy (ad 3) (us iP [(1, (0 : Int32))]) aP iB lB aB iC aC) H := Eq.mp (congrArg (fun w => va_P (dC, dI) vwCl w H) (sfP_iP1 ad cy (ad 3) iP aP iB lB aB iC aC ((0 : Int32)))) hP
  have hD : va_D A (zzP ad cy (ad 3) (us iP [(1, (0 : Int32))]) aP iB lB aB iC aC) := Eq.mp (congrArg (fun w => va_D A w) (sfP_iP1 ad cy (ad 3) iP aP iB lB aB iC aC ((0 : Int32)))) hD
  refine lv_iconst (v := 0) hx hb dX3_printBook_10 (by decide) ?_
  refine lv_istore_n (lv' := [(2, .int ((0 : Int32))), (0, .ref (ad 0)), (1, .ref (ad 3))]) hx hb dX3_printBook_11 rfl hl (by decide) rfl (fun ls hl => ?_)
  exact B12 N ((0 : Int32)) ((0 : Int32)) (iP 4) (aP 0) (aP 3) H locs ls h hP hD hS (lv_sub hl [1, 0] rfl)
