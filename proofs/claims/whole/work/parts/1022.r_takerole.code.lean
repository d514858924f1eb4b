def f_R_takeRole_80 (N : Nat) (iR3 : Int32) (iR4 : Int32) (iT1 : Int32) (iT2 : Int32) (iT3 : Int32) (iT4 : Int32) (wT : Int64) (tx : Nat → Int32) (iB3 : Int32) (iB5 : Int32) (lB2 : Nat → Int64) (lB4 : Nat → Int64) (v1 : Int32) (x_iB5 : Int32) (x_lB4 : Nat → Int64) : Option (Int32 × Int32 × Int32 × Int32 × Int32 × Int32 × Int64 × Int32 × (Nat → Int64)) := if v1 = (-1 : Int32) then ((f_R_failHere ((3 : Int32)) iR3 iR4 iT3).bind fun q87 => (some (q87.1, q87.2.1, q87.2.2, iT2, iT3, iT4, wT, x_iB5, x_lB4))) else ((f_T_step N iT1 iT2 iT3 iT4 wT tx).bind fun q95 => (some (v1, iR3, iR4, q95.1, q95.2.1, q95.2.2.1, q95.2.2.2, x_iB5, x_lB4)))
def f_R_takeRole_60 (N : Nat) (iR3 : Int32) (iR4 : Int32) (iT1 : Int32) (iT2 : Int32) (iT3 : Int32) (iT4 : Int32) (wT : Int64) (tx : Nat → Int32) (iB3 : Int32) (iB5 : Int32) (lB2 : Nat → Int64) (lB4 : Nat → Int64) (v1 : Int32) : Option (Int32 × Int32 × Int32 × Int32 × Int32 × Int32 × Int64 × Int32 × (Nat → Int64)) := if v1 = (-1 : Int32) then ((f_B_addRole wT iB5 lB4).bind fun q76 => (f_R_takeRole_80 N iR3 iR4 iT1 iT2 iT3 iT4 wT tx iB3 iB5 lB2 lB4 q76.1 q76.2.1 q76.2.2)) else (f_R_takeRole_80 N iR3 iR4 iT1 iT2 iT3 iT4 wT tx iB3 iB5 lB2 lB4 v1 iB5 lB4)
def f_R_takeRole (N : Nat) (iR3 : Int32) (iR4 : Int32) (iT1 : Int32) (iT2 : Int32) (iT3 : Int32) (iT4 : Int32) (wT : Int64) (tx : Nat → Int32) (iB3 : Int32) (iB5 : Int32) (lB2 : Nat → Int64) (lB4 : Nat → Int64) : Option (Int32 × Int32 × Int32 × Int32 × Int32 × Int32 × Int64 × Int32 × (Nat → Int64)) := if iT4 = (4 : Int32) then ((f_B_findRole N wT iB5 lB4).bind fun q27 => (if q27 = (-1 : Int32) then ((f_B_findName N wT iB3 lB2).bind fun q47 => (if q47 = (-1 : Int32) then (f_R_takeRole_60 N iR3 iR4 iT1 iT2 iT3 iT4 wT tx iB3 iB5 lB2 lB4 q27) else ((f_R_failHere ((4 : Int32)) iR3 iR4 iT3).bind fun q56 => (some (q56.1, q56.2.1, q56.2.2, iT2, iT3, iT4, wT, iB5, lB4))))) else (f_R_takeRole_60 N iR3 iR4 iT1 iT2 iT3 iT4 wT tx iB3 iB5 lB2 lB4 q27))) else ((f_R_misplaced iR3 iR4 iT3 iT4).bind fun q12 => (some (q12.1, q12.2.1, q12.2.2, iT2, iT3, iT4, wT, iB5, lB4)))
set_option maxHeartbeats 8000000 in
set_option maxRecDepth 100000 in
theorem c_R_takeRole (l : Launch) (dC : Nat → ClassId) (dI : Nat → Nat → Nat) (cy : Nat → ClassId) (ad : Nat → Nat) (sz : Nat) (N : Nat) (iR : Nat → Int32) (iT : Nat → Int32) (wT : Int64) (tx : Nat → Int32) (iB : Nat → Int32) (lB : Nat → Nat → Int64) (aB : Nat → Nat → Int32) (iC : Nat → Int32) (aC : Nat → Nat → Int32) (q : Int32 × Int32 × Int32 × Int32 × Int32 × Int32 × Int64 × Int32 × (Nat → Int64)) (h : f_R_takeRole N (iR 3) (iR 4) (iT 1) (iT 2) (iT 3) (iT 4) wT tx (iB 3) (iB 5) (lB 2) (lB 4) = some q) : Met l yX4_takeRole wsX4_takeRole ({ frames := 3, cells := 0, slots := 0, locals := 63 } : Room) (cP (dC, dI) cy [.ref (ad 0)] (zzR ad cy (ad 3) (ad 10) iR iT wT tx iB lB aB iC aC) sz) (cQi (dC, dI) cy q.1 (zzR ad cy (ad 3) (ad 10) (us iR [(3, q.2.1), (4, q.2.2.1)]) (us iT [(2, q.2.2.2.1), (3, q.2.2.2.2.1), (4, q.2.2.2.2.2.1)]) q.2.2.2.2.2.2.1 tx (us iB [(5, q.2.2.2.2.2.2.2.1)]) (us lB [(4, q.2.2.2.2.2.2.2.2)]) aB iC aC) (va_A (zzR ad cy (ad 3) (ad 10) iR iT wT tx iB lB aB iC aC) sz)) 0 0 (va_A (zzR ad cy (ad 3) (ad 10) iR iT wT tx iB lB aB iC aC) sz) := by
  refine Met.ofW (cc := cX4_takeRole) (maxL := 2) (ret := (some .int)) (by decide) rfl ?_
  intro p e s m args below meth c s₁ B hml hv
  obtain ⟨hav, hsz, hP, hK, hD0, hN⟩ := hv
  have hx := B.exec
  have hb := B.bytes
  have hr := B.returns
  have hts := atoms_spec (ws := wsX4_takeRole) B.pre
  have hown : s.vm.findClass RX4 = some m.cls := findClass_of_methodNamed B.named
  have hlocks := B.notSynchronized
  subst hsz
  have hD := hD0.self (sz := s.heap.size)
  generalize hAe : va_A (zzR ad cy (ad 3) (ad 10) iR iT wT tx iB lB aB iC aC) s.heap.size = A at hD ⊢
  have hA : ∀ q : Nat, s.heap.size ≤ q → A q := fun q h => by rw [← hAe]; exact Or.inr h
  have hS : va_S A s.heap s.heap [] := va_S.rf
  generalize hWQ : (zzR ad cy (ad 3) (ad 10) (us iR [(3, q.2.1), (4, q.2.2.1)]) (us iT [(2, q.2.2.2.1), (3, q.2.2.2.2.1), (4, q.2.2.2.2.2.1)]) q.2.2.2.2.2.2.1 tx (us iB [(5, q.2.2.2.2.2.2.2.1)]) (us lB [(4, q.2.2.2.2.2.2.2.2)]) aB iC aC) = WQ
  generalize hQQ : MQ below (cQi (dC, dI) cy q.1 WQ A) args s 0 0 A = QQ
  have hl := lv_entry ([.ref (ad 0)] : List Value) (n := 2) (Nat.le_of_ble_eq_true rfl)
  have hfr := lg_entry_eq m ([.ref (ad 0)] : List Value) 2
  rw [← hav] at hfr
  rw [hfr]
  clear hfr hav
  generalize (lg_sl ([.ref (ad 0)] : List Value) ++ List.replicate (2 - (lg_sl ([.ref (ad 0)] : List Value)).length) Slot.unset).toArray = ls at hl ⊢
  have hl : lv_has ls 2 [(0, .ref (ad 0))] := hl
  have kf20 := hts _ (List.mem_cons_of_mem _ m_fl_X4_20)
  have ki4 := (fun w h => List.mem_cons_of_mem _ (i_X4 w h) : ∀ w ∈ u_ws RX4 TX4 5, w ∈ wsX4_takeRole)
  have kf24 := hts _ (List.mem_cons_of_mem _ m_fl_X4_24)
  have kf48 := hts _ (List.mem_cons_of_mem _ m_fl_X4_48)
  have ki5 := (fun w h => List.mem_cons_of_mem _ (i_X5 w h) : ∀ w ∈ u_ws RX5 TX5 6, w ∈ wsX4_takeRole)
  have kf45 := hts _ (List.mem_cons_of_mem _ m_fl_X4_45)
  refine (?_ : ∀ (H : Heap) (locs : List Loc), va_P (dC, dI) vwCl (zzR ad cy (ad 3) (ad 10) iR iT wT tx iB lB aB iC aC) H → va_D A (zzR ad cy (ad 3) (ad 10) iR iT wT tx iB lB aB iC aC) → va_S A s.heap H locs → W p l e ({ frames := 3, cells := 0, slots := 0, locals := 63 } : Room) s m args below meth c H locs 0 0 QQ (F0 m 0 ls [])) s.heap [] hP hD hS
  clear hP hD hS
  have B80 : ∀ (v1 : Int32) (x_iB5 : Int32) (x_lB4 : Nat → Int64) (H : Heap) (locs : List Loc) (ls : Array Slot), f_R_takeRole_80 N (iR 3) (iR 4) (iT 1) (iT 2) (iT 3) (iT 4) wT tx (iB 3) (iB 5) (lB 2) (lB 4) v1 x_iB5 x_lB4 = some q → va_P (dC, dI) vwCl (zzR ad cy (ad 3) (ad 10) iR iT wT tx (us iB [(5, x_iB5)]) (us lB [(4, x_lB4)]) aB iC aC) H → va_D A (zzR ad cy (ad 3) (ad 10) iR iT wT tx (us iB [(5, x_iB5)]) (us lB [(4, x_lB4)]) aB iC aC) → va_S A s.heap H locs → lv_has ls 2 [(0, .ref (ad 0)), (1, .int v1)] → W p l e ({ frames := 3, cells := 0, slots := 0, locals := 63 } : Room) s m args below meth c H locs 0 0 QQ (F0 m 80 ls []) := by
    intro v1 x_iB5 x_lB4 H locs ls h hP hD hS hl
    unfold f_R_takeRole_80 at h
    refine lv_iload_n hx hb dX4_takeRole_80 rfl (lv_at hl 1 rfl) ?_
    refine lv_iconst (v := (-1)) hx hb dX4_takeRole_81 (by decide) ?_
    refine lv_icmp_ne (tgt := 91) hx hb dX4_takeRole_82 (by decide) (fun cz => ?_) (fun cz => ?_)
    · have h := g_f h cz
      refine lv_aload_n hx hb dX4_takeRole_91 rfl (lv_at hl 0 rfl) ?_
      refine va_get (D := (dC, dI)) (ci := 4) (v := .ref (ad 1)) (C := RX4) (T := TX4) (N := 5) hx hb hts ki4 hown hK hP 0 rfl rfl 0 (by decide) kf20 (fun _ h9 => h9) rfl dX4_takeRole_92 ?_
      obtain ⟨q95, e95, h⟩ := g_b h
      refine callVv (cc := cX4_takeRole) (ws' := zzR ad cy (ad 3) (ad 10) iR (us iT [(2, q95.1), (3, q95.2.1), (4, q95.2.2.1)]) q95.2.2.2 tx (us iB [(5, x_iB5)]) (us lB [(4, x_lB4)]) aB iC aC) (As := []) (rest := []) ⟨hx, hb, hml, hown, hts⟩ (c_T_step l dC dI cy (fun i => ad (i + 1)) H.size N iT wT tx q95 e95) (cwV 0 hts (goodV m_ml_X4_87 m_im_X5_step m_se_X5_step m_in_X5 m_cd_X5_step) rfl rfl rfl (by decide +kernel) ⟨Nat.le_of_ble_eq_true rfl, Nat.le_of_ble_eq_true rfl⟩) hN hK hP hD hS hA [1, 2] [none, some 0, some 1, none, none, none, none, none, none, none, none, none, none, none, none, none, none, none, none] rfl rfl rfl rfl rfl rfl 1 rfl rfl rfl hl.1 rfl (Nat.le_of_ble_eq_true rfl) dX4_takeRole_95 ⟨Nat.zero_le _, Nat.zero_le _⟩ (fun H locs hP hD hS => ?_)
      refine lv_iload_n hx hb dX4_takeRole_98 rfl (lv_at hl 1 rfl) ?_
      have h' := Option.some.inj h
      rw [← hQQ]
      exact W.iret (v := v1) hx hb hr (fun t ht hW => ⟨⟨v1, (), rfl, by rw [← h'], by rw [← hWQ, ← h', ht]; exact hP, va_K.moved hW.alike hK⟩, hS.F ht⟩) hS.2.2 dX4_takeRole_99
    · have h := g_t h cz
      refine lv_aload_n hx hb dX4_takeRole_85 rfl (lv_at hl 0 rfl) ?_
      refine lv_iconst (v := 3) hx hb dX4_takeRole_86 (by decide) ?_
      obtain ⟨q87, e87, h⟩ := g_b h
      refine callVis (cc := cX4_takeRole) (w1 := zzR ad cy (ad 3) (ad 10) (us iR [(3, q87.2.1), (4, q87.2.2)]) iT wT tx (us iB [(5, x_iB5)]) (us lB [(4, x_lB4)]) aB iC aC) (As := [.int ((3 : Int32))]) (rest := []) ⟨hx, hb, hml, hown, hts⟩ (c_R_failHere l dC dI cy ad H.size ((3 : Int32)) iR iT wT tx ((us iB [(5, x_iB5)])) ((us lB [(4, x_lB4)])) aB iC aC q87 e87) (cwV 1 hts (goodV m_ml_X4_77 m_im_X4_failHere m_se_X4_failHere m_in_X4 m_cd_X4_failHere) rfl rfl rfl (by decide +kernel) ⟨Nat.le_of_ble_eq_true rfl, Nat.le_of_ble_eq_true rfl⟩) hN hK hP hD hS hA rfl 0 rfl rfl rfl hl.1 rfl (Nat.le_of_ble_eq_true rfl) dX4_takeRole_87 ⟨Nat.zero_le _, Nat.zero_le _⟩ (fun H locs hP hD hS => ?_)
      have h' := Option.some.inj h
      rw [← hQQ]
      exact W.iret (v := q87.1) hx hb hr (fun t ht hW => ⟨⟨q87.1, (), rfl, by rw [← h'], by rw [← hWQ, ← h', ht]; exact hP, va_K.moved hW.alike hK⟩, hS.F ht⟩) hS.2.2 dX4_takeRole_90
  have B60 : ∀ (v1 : Int32) (H : Heap) (locs : List Loc) (ls : Array Slot), f_R_takeRole_60 N (iR 3) (iR 4) (iT 1) (iT 2) (iT 3) (iT 4) wT tx (iB 3) (iB 5) (lB 2) (lB 4) v1 = some q → va_P (dC, dI) vwCl (zzR ad cy (ad 3) (ad 10) iR iT wT tx iB lB aB iC aC) H → va_D A (zzR ad cy (ad 3) (ad 10) iR iT wT tx iB lB aB iC aC) → va_S A s.heap H locs → lv_has ls 2 [(0, .ref (ad 0)), (1, .int v1)] → W p l e ({ frames := 3, cells := 0, slots := 0, locals := 63 } : Room) s m args below meth c H locs 0 0 QQ (F0 m 60 ls []) := by
    intro v1 H locs ls h hP hD hS hl
    unfold f_R_takeRole_60 at h
    refine lv_iload_n hx hb dX4_takeRole_60 rfl (lv_at hl 1 rfl) ?_
    refine lv_iconst (v := (-1)) hx hb dX4_takeRole_61 (by decide) ?_
    refine lv_icmp_ne (tgt := 80) hx hb dX4_takeRole_62 (by decide) (fun cz => ?_) (fun cz => ?_)
    · have h := g_f h cz
      exact B80 v1 (iB 5) (lB 4) H locs ls h hP hD hS (lv_sub hl [0, 1] rfl)
    · have h := g_t h cz
      refine lv_aload_n hx hb dX4_takeRole_65 rfl (lv_at hl 0 rfl) ?_
      refine va_get (D := (dC, dI)) (ci := 4) (v := .ref (ad 3)) (C := RX4) (T := TX4) (N := 5) hx hb hts ki4 hown hK hP 0 rfl rfl 1 (by decide) kf24 (fun _ h9 => h9) rfl dX4_takeRole_66 ?_
      refine lv_aload_n hx hb dX4_takeRole_69 rfl (lv_at hl 0 rfl) ?_
      refine va_get (D := (dC, dI)) (ci := 4) (v := .ref (ad 1)) (C := RX4) (T := TX4) (N := 5) hx hb hts ki4 hown hK hP 0 rfl rfl 0 (by decide) kf20 (fun _ h9 => h9) rfl dX4_takeRole_70 ?_
      refine va_get (D := (dC, dI)) (ci := 5) (v := .long wT) (C := RX5) (T := TX5) (N := 6) hx hb hts ki5 hown hK hP 1 rfl rfl 5 (by decide) kf48 (fun _ h9 => h9) rfl dX4_takeRole_73 ?_
      obtain ⟨q76, e76, h⟩ := g_b h
      refine callVi (cc := cX4_takeRole) (ws' := zzR ad cy (ad 3) (ad 10) iR iT wT tx (us iB [(5, q76.2.1)]) (us lB [(4, q76.2.2)]) aB iC aC) (As := [.long wT]) (rest := []) ⟨hx, hb, hml, hown, hts⟩ (c_B_addRole l dC dI cy (fun i => ad (i + 3)) H.size wT iB lB aB iC aC q76 e76) (cwV 1 hts (goodV m_ml_X4_145 m_im_X0_addRole m_se_X0_addRole m_in_X0 m_cd_X0_addRole) rfl rfl rfl (by decide +kernel) ⟨Nat.le_of_ble_eq_true rfl, Nat.le_of_ble_eq_true rfl⟩) hN hK hP hD hS hA [3, 4, 5, 6, 7, 8, 9, 10, 11, 12, 13, 14, 15, 16, 17, 18] [none, none, none, some 0, some 1, some 2, some 3, some 4, some 5, some 6, some 7, some 8, some 9, some 10, some 11, some 12, some 13, some 14, some 15] rfl rfl rfl rfl rfl rfl 3 rfl rfl rfl hl.1 rfl (Nat.le_of_ble_eq_true rfl) dX4_takeRole_76 ⟨Nat.zero_le _, Nat.zero_le _⟩ (fun H locs hP hD hS => ?_)
      refine lv_istore_n (lv' := [(1, .int q76.1), (0, .ref (ad 0))]) hx hb dX4_takeRole_79 rfl hl (by decide) rfl (fun ls hl => ?_)
      exact B80 q76.1 q76.2.1 q76.2.2 H locs ls h hP hD hS (lv_sub hl [1, 0] rfl)
  intro H locs hP hD hS
  unfold f_R_takeRole at h
  refine lv_aload_n hx hb dX4_takeRole_0 rfl (lv_at hl 0 rfl) ?_
  refine va_get (D := (dC, dI)) (ci := 4) (v := .ref (ad 1)) (C := RX4) (T := TX4) (N := 5) hx hb hts ki4 hown hK hP 0 rfl rfl 0 (by decide) kf20 (fun _ h9 => h9) rfl dX4_takeRole_1 ?_
  refine va_get (D := (dC, dI)) (ci := 5) (v := .int (iT 4)) (C := RX5) (T := TX5) (N := 6) hx hb hts ki5 hown hK hP 1 rfl rfl 4 (by decide) kf45 (fun _ h9 => h9) rfl dX4_takeRole_4 ?_
  refine lv_iconst (v := 4) hx hb dX4_takeRole_7 (by decide) ?_
  refine lv_icmp_eq (tgt := 16) hx hb dX4_takeRole_8 (by decide) (fun cz => ?_) (fun cz => ?_)
  · have h := g_t h cz
    refine lv_aload_n hx hb dX4_takeRole_16 rfl (lv_at hl 0 rfl) ?_
    refine va_get (D := (dC, dI)) (ci := 4) (v := .ref (ad 3)) (C := RX4) (T := TX4) (N := 5) hx hb hts ki4 hown hK hP 0 rfl rfl 1 (by decide) kf24 (fun _ h9 => h9) rfl dX4_takeRole_17 ?_
    refine lv_aload_n hx hb dX4_takeRole_20 rfl (lv_at hl 0 rfl) ?_
    refine va_get (D := (dC, dI)) (ci := 4) (v := .ref (ad 1)) (C := RX4) (T := TX4) (N := 5) hx hb hts ki4 hown hK hP 0 rfl rfl 0 (by decide) kf20 (fun _ h9 => h9) rfl dX4_takeRole_21 ?_
    refine va_get (D := (dC, dI)) (ci := 5) (v := .long wT) (C := RX5) (T := TX5) (N := 6) hx hb hts ki5 hown hK hP 1 rfl rfl 5 (by decide) kf48 (fun _ h9 => h9) rfl dX4_takeRole_24 ?_
    obtain ⟨q27, e27, h⟩ := g_b h
    refine callVi (cc := cX4_takeRole) (ws' := zzR ad cy (ad 3) (ad 10) iR iT wT tx iB lB aB iC aC) (As := [.long wT]) (rest := []) ⟨hx, hb, hml, hown, hts⟩ (c_B_findRole l dC dI cy (fun i => ad (i + 3)) H.size N wT iB lB aB iC aC q27 e27) (cwV 1 hts (goodV m_ml_X4_138 m_im_X0_findRole m_se_X0_findRole m_in_X0 m_cd_X0_findRole) rfl rfl rfl (by decide +kernel) ⟨Nat.le_of_ble_eq_true rfl, Nat.le_of_ble_eq_true rfl⟩) hN hK hP hD hS hA [3, 4, 5, 6, 7, 8, 9, 10, 11, 12, 13, 14, 15, 16, 17, 18] [none, none, none, some 0, some 1, some 2, some 3, some 4, some 5, some 6, some 7, some 8, some 9, some 10, some 11, some 12, some 13, some 14, some 15] rfl rfl rfl rfl rfl rfl 3 rfl rfl rfl hl.1 rfl (Nat.le_of_ble_eq_true rfl) dX4_takeRole_27 ⟨Nat.zero_le _, Nat.zero_le _⟩ (fun H locs hP hD hS => ?_)
    refine lv_istore_n (lv' := [(1, .int q27), (0, .ref (ad 0))]) hx hb dX4_takeRole_30 rfl hl (by decide) rfl (fun ls hl => ?_)
    refine lv_iload_n hx hb dX4_takeRole_31 rfl (lv_at hl 0 rfl) ?_
    refine lv_iconst (v := (-1)) hx hb dX4_takeRole_32 (by decide) ?_
    refine lv_icmp_ne (tgt := 60) hx hb dX4_takeRole_33 (by decide) (fun cz => ?_) (fun cz => ?_)
    · have h := g_f h cz
      exact B60 q27 H locs ls h hP hD hS (lv_sub hl [1, 0] rfl)
    · have h := g_t h cz
      refine lv_aload_n hx hb dX4_takeRole_36 rfl (lv_at hl 1 rfl) ?_
      refine va_get (D := (dC, dI)) (ci := 4) (v := .ref (ad 3)) (C := RX4) (T := TX4) (N := 5) hx hb hts ki4 hown hK hP 0 rfl rfl 1 (by decide) kf24 (fun _ h9 => h9) rfl dX4_takeRole_37 ?_
      refine lv_aload_n hx hb dX4_takeRole_40 rfl (lv_at hl 1 rfl) ?_
      refine va_get (D := (dC, dI)) (ci := 4) (v := .ref (ad 1)) (C := RX4) (T := TX4) (N := 5) hx hb hts ki4 hown hK hP 0 rfl rfl 0 (by decide) kf20 (fun _ h9 => h9) rfl dX4_takeRole_41 ?_
      refine va_get (D := (dC, dI)) (ci := 5) (v := .long wT) (C := RX5) (T := TX5) (N := 6) hx hb hts ki5 hown hK hP 1 rfl rfl 5 (by decide) kf48 (fun _ h9 => h9) rfl dX4_takeRole_44 ?_
      obtain ⟨q47, e47, h⟩ := g_b h
      refine callVi (cc := cX4_takeRole) (ws' := zzR ad cy (ad 3) (ad 10) iR iT wT tx iB lB aB iC aC) (As := [.long wT]) (rest := []) ⟨hx, hb, hml, hown, hts⟩ (c_B_findName l dC dI cy (fun i => ad (i + 3)) H.size N wT iB lB aB iC aC q47 e47) (cwV 1 hts (goodV m_ml_X4_142 m_im_X0_findName m_se_X0_findName m_in_X0 m_cd_X0_findName) rfl rfl rfl (by decide +kernel) ⟨Nat.le_of_ble_eq_true rfl, Nat.le_of_ble_eq_true rfl⟩) hN hK hP hD hS hA [3, 4, 5, 6, 7, 8, 9, 10, 11, 12, 13, 14, 15, 16, 17, 18] [none, none, none, some 0, some 1, some 2, some 3, some 4, some 5, some 6, some 7, some 8, some 9, some 10, some 11, some 12, some 13, some 14, some 15] rfl rfl rfl rfl rfl rfl 3 rfl rfl rfl hl.1 rfl (Nat.le_of_ble_eq_true rfl) dX4_takeRole_47 ⟨Nat.zero_le _, Nat.zero_le _⟩ (fun H locs hP hD hS => ?_)
      refine lv_iconst (v := (-1)) hx hb dX4_takeRole_50 (by decide) ?_
      refine lv_icmp_eq (tgt := 60) hx hb dX4_takeRole_51 (by decide) (fun cz => ?_) (fun cz => ?_)
      · have h := g_t h cz
        exact B60 q27 H locs ls h hP hD hS (lv_sub hl [1, 0] rfl)
      · have h := g_f h cz
        refine lv_aload_n hx hb dX4_takeRole_54 rfl (lv_at hl 1 rfl) ?_
        refine lv_iconst (v := 4) hx hb dX4_takeRole_55 (by decide) ?_
        obtain ⟨q56, e56, h⟩ := g_b h
        refine callVis (cc := cX4_takeRole) (w1 := zzR ad cy (ad 3) (ad 10) (us iR [(3, q56.2.1), (4, q56.2.2)]) iT wT tx iB lB aB iC aC) (As := [.int ((4 : Int32))]) (rest := []) ⟨hx, hb, hml, hown, hts⟩ (c_R_failHere l dC dI cy ad H.size ((4 : Int32)) iR iT wT tx iB lB aB iC aC q56 e56) (cwV 1 hts (goodV m_ml_X4_77 m_im_X4_failHere m_se_X4_failHere m_in_X4 m_cd_X4_failHere) rfl rfl rfl (by decide +kernel) ⟨Nat.le_of_ble_eq_true rfl, Nat.le_of_ble_eq_true rfl⟩) hN hK hP hD hS hA rfl 0 rfl rfl rfl hl.1 rfl (Nat.le_of_ble_eq_true rfl) dX4_takeRole_56 ⟨Nat.zero_le _, Nat.zero_le _⟩ (fun H locs hP hD hS => ?_)
        have h' := Option.some.inj h
        rw [← hQQ]
        exact W.iret (v := q56.1) hx hb hr (fun t ht hW => ⟨⟨q56.1, (), rfl, by rw [← h'], by rw [← hWQ, ← h', ht]; exact hP, va_K.moved hW.alike hK⟩, hS.F ht⟩) hS.2.2 dX4_takeRole_59
  · have h := g_f h cz
    refine lv_aload_n hx hb dX4_takeRole_11 rfl (lv_at hl 0 rfl) ?_
    obtain ⟨q12, e12, h⟩ := g_b h
    refine callVis (cc := cX4_takeRole) (w1 := zzR ad cy (ad 3) (ad 10) (us iR [(3, q12.2.1), (4, q12.2.2)]) iT wT tx iB lB aB iC aC) (As := []) (rest := []) ⟨hx, hb, hml, hown, hts⟩ (c_R_misplaced l dC dI cy ad H.size iR iT wT tx iB lB aB iC aC q12 e12) (cwV 0 hts (goodV m_ml_X4_83 m_im_X4_misplaced m_se_X4_misplaced m_in_X4 m_cd_X4_misplaced) rfl rfl rfl (by decide +kernel) ⟨Nat.le_of_ble_eq_true rfl, Nat.le_of_ble_eq_true rfl⟩) hN hK hP hD hS hA rfl 0 rfl rfl rfl hl.1 rfl (Nat.le_of_ble_eq_true rfl) dX4_takeRole_12 ⟨Nat.zero_le _, Nat.zero_le _⟩ (fun H locs hP hD hS => ?_)
    have h' := Option.some.inj h
    rw [← hQQ]
    exact W.iret (v := q12.1) hx hb hr (fun t ht hW => ⟨⟨q12.1, (), rfl, by rw [← h'], by rw [← hWQ, ← h', ht]; exact hP, va_K.moved hW.alike hK⟩, hS.F ht⟩) hS.2.2 dX4_takeRole_15
