def f_R_takeName_64 (N : Nat) (iR : Nat → Int32) (iT : Nat → Int32) (wT : Int64) (tx : Nat → Int32) (iB : Nat → Int32) (lB : Nat → Nat → Int64) (aB : Nat → Nat → Int32) (iC : Nat → Int32) (aC : Nat → Nat → Int32) (v1 : Int32) (x_iB : Nat → Int32) (x_lB : Nat → Nat → Int64) : Option (Int32 × (Nat → Int32) × (Nat → Int32) × Int64 × (Nat → Int32) × (Nat → Nat → Int64) × (Nat → Int32) × (Nat → Nat → Int32)) := if v1 = (-1 : Int32) then ((f_R_failHere ((3 : Int32)) ((iR 3)) ((iR 4)) ((iT 3))).bind fun q71 => (some (q71.1, (us iR [(3, q71.2.1), (4, q71.2.2)]), iT, wT, x_iB, x_lB, iC, aC))) else ((f_C_make N ((0 : Int32)) v1 ((0 : Int32)) ((iC 4)) ((iC 9)) ((aC 0)) ((aC 1)) ((aC 2)) ((aC 3)) ((aC 5)) ((aC 6)) ((aC 7)) ((aC 8))).bind fun q82 => (if q82.1 = (-1 : Int32) then ((f_R_failHere ((5 : Int32)) ((iR 3)) ((iR 4)) ((iT 3))).bind fun q93 => (some (q93.1, (us iR [(3, q93.2.1), (4, q93.2.2)]), iT, wT, x_iB, x_lB, (us iC [(4, q82.2.1), (9, q82.2.2.1)]), (us aC [(0, q82.2.2.2.1), (1, q82.2.2.2.2.1), (2, q82.2.2.2.2.2.1), (3, q82.2.2.2.2.2.2.1), (5, q82.2.2.2.2.2.2.2.1), (6, q82.2.2.2.2.2.2.2.2.1), (7, q82.2.2.2.2.2.2.2.2.2.1), (8, q82.2.2.2.2.2.2.2.2.2.2)])))) else ((f_T_step N ((iT 1)) ((iT 2)) ((iT 3)) ((iT 4)) wT tx).bind fun q101 => (some (q82.1, iR, (us iT [(2, q101.1), (3, q101.2.1), (4, q101.2.2.1)]), q101.2.2.2, x_iB, x_lB, (us iC [(4, q82.2.1), (9, q82.2.2.1)]), (us aC [(0, q82.2.2.2.1), (1, q82.2.2.2.2.1), (2, q82.2.2.2.2.2.1), (3, q82.2.2.2.2.2.2.1), (5, q82.2.2.2.2.2.2.2.1), (6, q82.2.2.2.2.2.2.2.2.1), (7, q82.2.2.2.2.2.2.2.2.2.1), (8, q82.2.2.2.2.2.2.2.2.2.2)]))))))
def f_R_takeName_44 (N : Nat) (iR : Nat → Int32) (iT : Nat → Int32) (wT : Int64) (tx : Nat → Int32) (iB : Nat → Int32) (lB : Nat → Nat → Int64) (aB : Nat → Nat → Int32) (iC : Nat → Int32) (aC : Nat → Nat → Int32) (v1 : Int32) : Option (Int32 × (Nat → Int32) × (Nat → Int32) × Int64 × (Nat → Int32) × (Nat → Nat → Int64) × (Nat → Int32) × (Nat → Nat → Int32)) := if v1 = (-1 : Int32) then ((f_B_addName wT ((iB 3)) ((lB 2))).bind fun q60 => (f_R_takeName_64 N iR iT wT tx iB lB aB iC aC q60.1 ((us iB [(3, q60.2.1)])) ((us lB [(2, q60.2.2)])))) else (f_R_takeName_64 N iR iT wT tx iB lB aB iC aC v1 iB lB)
def f_R_takeName (N : Nat) (iR : Nat → Int32) (iT : Nat → Int32) (wT : Int64) (tx : Nat → Int32) (iB : Nat → Int32) (lB : Nat → Nat → Int64) (aB : Nat → Nat → Int32) (iC : Nat → Int32) (aC : Nat → Nat → Int32) : Option (Int32 × (Nat → Int32) × (Nat → Int32) × Int64 × (Nat → Int32) × (Nat → Nat → Int64) × (Nat → Int32) × (Nat → Nat → Int32)) := (f_B_findName N wT ((iB 3)) ((lB 2))).bind fun q11 => (if q11 = (-1 : Int32) then ((f_B_findRole N wT ((iB 5)) ((lB 4))).bind fun q31 => (if q31 = (-1 : Int32) then (f_R_takeName_44 N iR iT wT tx iB lB aB iC aC q11) else ((f_R_failHere ((4 : Int32)) ((iR 3)) ((iR 4)) ((iT 3))).bind fun q40 => (some (q40.1, (us iR [(3, q40.2.1), (4, q40.2.2)]), iT, wT, iB, lB, iC, aC))))) else (f_R_takeName_44 N iR iT wT tx iB lB aB iC aC q11))
set_option maxHeartbeats 8000000 in
set_option maxRecDepth 100000 in
theorem c_R_takeName (l : Launch) (dC : Nat → ClassId) (dI : Nat → Nat → Nat) (cy : Nat → ClassId) (ad : Nat → Nat) (sz : Nat) (N : Nat) (iR : Nat → Int32) (iT : Nat → Int32) (wT : Int64) (tx : Nat → Int32) (iB : Nat → Int32) (lB : Nat → Nat → Int64) (aB : Nat → Nat → Int32) (iC : Nat → Int32) (aC : Nat → Nat → Int32) (q : Int32 × (Nat → Int32) × (Nat → Int32) × Int64 × (Nat → Int32) × (Nat → Nat → Int64) × (Nat → Int32) × (Nat → Nat → Int32)) (h : f_R_takeName N iR iT wT tx iB lB aB iC aC = some q) : Met l yX4_takeName wsX4_takeName ({ frames := 3, cells := 0, slots := 0, locals := 74 } : Room) (cP (dC, dI) cy [.ref (ad 0)] (zzR ad cy (ad 3) (ad 10) iR iT wT tx iB lB aB iC aC) sz) (cQi (dC, dI) cy q.1 (zzR ad cy (ad 3) (ad 10) q.2.1 q.2.2.1 q.2.2.2.1 tx q.2.2.2.2.1 q.2.2.2.2.2.1 aB q.2.2.2.2.2.2.1 q.2.2.2.2.2.2.2) (va_A (zzR ad cy (ad 3) (ad 10) iR iT wT tx iB lB aB iC aC) sz)) 0 0 (va_A (zzR ad cy (ad 3) (ad 10) iR iT wT tx iB lB aB iC aC) sz) := by
  refine Met.ofW (cc := cX4_takeName) (maxL := 3) (ret := (some .int)) (by decide) rfl ?_
  intro p e s m args below meth c s₁ B hml hv
  obtain ⟨hav, hsz, hP, hK, hD0, hN⟩ := hv
  have hx := B.exec
  have hb := B.bytes
  have hr := B.returns
  have hts := atoms_spec (ws := wsX4_takeName) B.pre
  have hown : s.vm.findClass RX4 = some m.cls := findClass_of_methodNamed B.named
  have hlocks := B.notSynchronized
  subst hsz
  have hD := hD0.self (sz := s.heap.size)
  generalize hAe : va_A (zzR ad cy (ad 3) (ad 10) iR iT wT tx iB lB aB iC aC) s.heap.size = A at hD ⊢
  have hA : ∀ q : Nat, s.heap.size ≤ q → A q := fun q h => by rw [← hAe]; exact Or.inr h
  have hS : va_S A s.heap s.heap [] := va_S.rf
  generalize hWQ : (zzR ad cy (ad 3) (ad 10) q.2.1 q.2.2.1 q.2.2.2.1 tx q.2.2.2.2.1 q.2.2.2.2.2.1 aB q.2.2.2.2.2.2.1 q.2.2.2.2.2.2.2) = WQ
  generalize hQQ : MQ below (cQi (dC, dI) cy q.1 WQ A) args s 0 0 A = QQ
  have hl := lv_entry ([.ref (ad 0)] : List Value) (n := 3) (Nat.le_of_ble_eq_true rfl)
  have hfr := lg_entry_eq m ([.ref (ad 0)] : List Value) 3
  rw [← hav] at hfr
  rw [hfr]
  clear hfr hav
  generalize (lg_sl ([.ref (ad 0)] : List Value) ++ List.replicate (3 - (lg_sl ([.ref (ad 0)] : List Value)).length) Slot.unset).toArray = ls at hl ⊢
  have hl : lv_has ls 3 [(0, .ref (ad 0))] := hl
  have kf34 := hts _ (List.mem_cons_of_mem _ m_fl_X4_34)
  have ki4 := (fun w h => List.mem_cons_of_mem _ (i_X4 w h) : ∀ w ∈ u_ws RX4 TX4 5, w ∈ wsX4_takeName)
  have kf20 := hts _ (List.mem_cons_of_mem _ m_fl_X4_20)
  have kf24 := hts _ (List.mem_cons_of_mem _ m_fl_X4_24)
  have kf48 := hts _ (List.mem_cons_of_mem _ m_fl_X4_48)
  have ki5 := (fun w h => List.mem_cons_of_mem _ (i_X5 w h) : ∀ w ∈ u_ws RX5 TX5 6, w ∈ wsX4_takeName)
  refine (?_ : ∀ (H : Heap) (locs : List Loc), va_P (dC, dI) vwCl (zzR ad cy (ad 3) (ad 10) iR iT wT tx iB lB aB iC aC) H → va_D A (zzR ad cy (ad 3) (ad 10) iR iT wT tx iB lB aB iC aC) → va_S A s.heap H locs → W p l e ({ frames := 3, cells := 0, slots := 0, locals := 74 } : Room) s m args below meth c H locs 0 0 QQ (F0 m 0 ls [])) s.heap [] hP hD hS
  clear hP hD hS
  have B64 : ∀ (v1 : Int32) (x_iB : Nat → Int32) (x_lB : Nat → Nat → Int64) (H : Heap) (locs : List Loc) (ls : Array Slot), f_R_takeName_64 N iR iT wT tx iB lB aB iC aC v1 x_iB x_lB = some q → va_P (dC, dI) vwCl (zzR ad cy (ad 3) (ad 10) iR iT wT tx x_iB x_lB aB iC aC) H → va_D A (zzR ad cy (ad 3) (ad 10) iR iT wT tx x_iB x_lB aB iC aC) → va_S A s.heap H locs → lv_has ls 3 [(0, .ref (ad 0)), (1, .int v1)] → W p l e ({ frames := 3, cells := 0, slots := 0, locals := 74 } : Room) s m args below meth c H locs 0 0 QQ (F0 m 64 ls []) := by
    intro v1 x_iB x_lB H locs ls h hP hD hS hl
    unfold f_R_takeName_64 at h
    refine lv_iload_n hx hb dX4_takeName_64 rfl (lv_at hl 1 rfl) ?_
    refine lv_iconst (v := (-1)) hx hb dX4_takeName_65 (by decide) ?_
    refine lv_icmp_ne (tgt := 75) hx hb dX4_takeName_66 (by decide) (fun cz => ?_) (fun cz => ?_)
    · have h := g_f h cz
      refine lv_aload_n hx hb dX4_takeName_75 rfl (lv_at hl 0 rfl) ?_
      refine va_get (D := (dC, dI)) (ci := 4) (v := .ref (ad 10)) (C := RX4) (T := TX4) (N := 5) hx hb hts ki4 hown hK hP 0 rfl rfl 2 (by decide) kf34 (fun _ h9 => h9) rfl dX4_takeName_76 ?_
      refine lv_iconst (v := 0) hx hb dX4_takeName_79 (by decide) ?_
      refine lv_iload_n hx hb dX4_takeName_80 rfl (lv_at hl 1 rfl) ?_
      refine lv_iconst (v := 0) hx hb dX4_takeName_81 (by decide) ?_
      obtain ⟨q82, e82, h⟩ := g_b h
      refine callVi (cc := cX4_takeName) (ws' := zzR ad cy (ad 3) (ad 10) iR iT wT tx x_iB x_lB aB (us iC [(4, q82.2.1), (9, q82.2.2.1)]) (us aC [(0, q82.2.2.2.1), (1, q82.2.2.2.2.1), (2, q82.2.2.2.2.2.1), (3, q82.2.2.2.2.2.2.1), (5, q82.2.2.2.2.2.2.2.1), (6, q82.2.2.2.2.2.2.2.2.1), (7, q82.2.2.2.2.2.2.2.2.2.1), (8, q82.2.2.2.2.2.2.2.2.2.2)])) (As := [.int ((0 : Int32)), .int v1, .int ((0 : Int32))]) (rest := []) ⟨hx, hb, hml, hown, hts⟩ (c_C_make l dC dI cy (fun i => ad (i + 10)) H.size N ((0 : Int32)) v1 ((0 : Int32)) iC aC q82 e82) (cwV 3 hts (goodV m_ml_X4_156 m_im_X1_make m_se_X1_make m_in_X1 m_cd_X1_make) rfl rfl rfl (by decide +kernel) ⟨Nat.le_of_ble_eq_true rfl, Nat.le_of_ble_eq_true rfl⟩) hN hK hP hD hS hA [10, 11, 12, 13, 14, 15, 16, 17, 18] [none, none, none, none, none, none, none, none, none, none, some 0, some 1, some 2, some 3, some 4, some 5, some 6, some 7, some 8] rfl rfl rfl rfl rfl rfl 10 rfl rfl rfl hl.1 rfl (Nat.le_of_ble_eq_true rfl) dX4_takeName_82 ⟨Nat.zero_le _, Nat.zero_le _⟩ (fun H locs hP hD hS => ?_)
      refine lv_istore_n (lv' := [(2, .int q82.1), (0, .ref (ad 0)), (1, .int v1)]) hx hb dX4_takeName_85 rfl hl (by decide) rfl (fun ls hl => ?_)
      refine lv_iload_n hx hb dX4_takeName_86 rfl (lv_at hl 0 rfl) ?_
      refine lv_iconst (v := (-1)) hx hb dX4_takeName_87 (by decide) ?_
      refine lv_icmp_ne (tgt := 97) hx hb dX4_takeName_88 (by decide) (fun cz => ?_) (fun cz => ?_)
      · have h := g_f h cz
        refine lv_aload_n hx hb dX4_takeName_97 rfl (lv_at hl 1 rfl) ?_
        refine va_get (D := (dC, dI)) (ci := 4) (v := .ref (ad 1)) (C := RX4) (T := TX4) (N := 5) hx hb hts ki4 hown hK hP 0 rfl rfl 0 (by decide) kf20 (fun _ h9 => h9) rfl dX4_takeName_98 ?_
        obtain ⟨q101, e101, h⟩ := g_b h
        refine callVv (cc := cX4_takeName) (ws' := zzR ad cy (ad 3) (ad 10) iR (us iT [(2, q101.1), (3, q101.2.1), (4, q101.2.2.1)]) q101.2.2.2 tx x_iB x_lB aB (us iC [(4, q82.2.1), (9, q82.2.2.1)]) (us aC [(0, q82.2.2.2.1), (1, q82.2.2.2.2.1), (2, q82.2.2.2.2.2.1), (3, q82.2.2.2.2.2.2.1), (5, q82.2.2.2.2.2.2.2.1), (6, q82.2.2.2.2.2.2.2.2.1), (7, q82.2.2.2.2.2.2.2.2.2.1), (8, q82.2.2.2.2.2.2.2.2.2.2)])) (As := []) (rest := []) ⟨hx, hb, hml, hown, hts⟩ (c_T_step l dC dI cy (fun i => ad (i + 1)) H.size N iT wT tx q101 e101) (cwV 0 hts (goodV m_ml_X4_87 m_im_X5_step m_se_X5_step m_in_X5 m_cd_X5_step) rfl rfl rfl (by decide +kernel) ⟨Nat.le_of_ble_eq_true rfl, Nat.le_of_ble_eq_true rfl⟩) hN hK hP hD hS hA [1, 2] [none, some 0, some 1, none, none, none, none, none, none, none, none, none, none, none, none, none, none, none, none] rfl rfl rfl rfl rfl rfl 1 rfl rfl rfl hl.1 rfl (Nat.le_of_ble_eq_true rfl) dX4_takeName_101 ⟨Nat.zero_le _, Nat.zero_le _⟩ (fun H locs hP hD hS => ?_)
        refine lv_iload_n hx hb dX4_takeName_104 rfl (lv_at hl 0 rfl) ?_
        have h' := Option.some.inj h
        rw [← hQQ]
        exact W.iret (v := q82.1) hx hb hr (fun t ht hW => ⟨⟨q82.1, (), rfl, by rw [← h'], by rw [← hWQ, ← h', ht]; exact hP, va_K.moved hW.alike hK⟩, hS.F ht⟩) hS.2.2 dX4_takeName_105
      · have h := g_t h cz
        refine lv_aload_n hx hb dX4_takeName_91 rfl (lv_at hl 1 rfl) ?_
        refine lv_iconst (v := 5) hx hb dX4_takeName_92 (by decide) ?_
        obtain ⟨q93, e93, h⟩ := g_b h
        refine callVis (cc := cX4_takeName) (w1 := zzR ad cy (ad 3) (ad 10) (us iR [(3, q93.2.1), (4, q93.2.2)]) iT wT tx x_iB x_lB aB (us iC [(4, q82.2.1), (9, q82.2.2.1)]) (us aC [(0, q82.2.2.2.1), (1, q82.2.2.2.2.1), (2, q82.2.2.2.2.2.1), (3, q82.2.2.2.2.2.2.1), (5, q82.2.2.2.2.2.2.2.1), (6, q82.2.2.2.2.2.2.2.2.1), (7, q82.2.2.2.2.2.2.2.2.2.1), (8, q82.2.2.2.2.2.2.2.2.2.2)])) (As := [.int ((5 : Int32))]) (rest := []) ⟨hx, hb, hml, hown, hts⟩ (c_R_failHere l dC dI cy ad H.size ((5 : Int32)) iR iT wT tx x_iB x_lB aB ((us iC [(4, q82.2.1), (9, q82.2.2.1)])) ((us aC [(0, q82.2.2.2.1), (1, q82.2.2.2.2.1), (2, q82.2.2.2.2.2.1), (3, q82.2.2.2.2.2.2.1), (5, q82.2.2.2.2.2.2.2.1), (6, q82.2.2.2.2.2.2.2.2.1), (7, q82.2.2.2.2.2.2.2.2.2.1), (8, q82.2.2.2.2.2.2.2.2.2.2)])) q93 e93) (cwV 1 hts (goodV m_ml_X4_77 m_im_X4_failHere m_se_X4_failHere m_in_X4 m_cd_X4_failHere) rfl rfl rfl (by decide +kernel) ⟨Nat.le_of_ble_eq_true rfl, Nat.le_of_ble_eq_true rfl⟩) hN hK hP hD hS hA rfl 0 rfl rfl rfl hl.1 rfl (Nat.le_of_ble_eq_true rfl) dX4_takeName_93 ⟨Nat.zero_le _, Nat.zero_le _⟩ (fun H locs hP hD hS => ?_)
        have h' := Option.some.inj h
        rw [← hQQ]
        exact W.iret (v := q93.1) hx hb hr (fun t ht hW => ⟨⟨q93.1, (), rfl, by rw [← h'], by rw [← hWQ, ← h', ht]; exact hP, va_K.moved hW.alike hK⟩, hS.F ht⟩) hS.2.2 dX4_takeName_96
    · have h := g_t h cz
      refine lv_aload_n hx hb dX4_takeName_69 rfl (lv_at hl 0 rfl) ?_
      refine lv_iconst (v := 3) hx hb dX4_takeName_70 (by decide) ?_
      obtain ⟨q71, e71, h⟩ := g_b h
      refine callVis (cc := cX4_takeName) (w1 := zzR ad cy (ad 3) (ad 10) (us iR [(3, q71.2.1), (4, q71.2.2)]) iT wT tx x_iB x_lB aB iC aC) (As := [.int ((3 : Int32))]) (rest := []) ⟨hx, hb, hml, hown, hts⟩ (c_R_failHere l dC dI cy ad H.size ((3 : Int32)) iR iT wT tx x_iB x_lB aB iC aC q71 e71) (cwV 1 hts (goodV m_ml_X4_77 m_im_X4_failHere m_se_X4_failHere m_in_X4 m_cd_X4_failHere) rfl rfl rfl (by decide +kernel) ⟨Nat.le_of_ble_eq_true rfl, Nat.le_of_ble_eq_true rfl⟩) hN hK hP hD hS hA rfl 0 rfl rfl rfl hl.1 rfl (Nat.le_of_ble_eq_true rfl) dX4_takeName_71 ⟨Nat.zero_le _, Nat.zero_le _⟩ (fun H locs hP hD hS => ?_)
      have h' := Option.some.inj h
      rw [← hQQ]
      exact W.iret (v := q71.1) hx hb hr (fun t ht hW => ⟨⟨q71.1, (), rfl, by rw [← h'], by rw [← hWQ, ← h', ht]; exact hP, va_K.moved hW.alike hK⟩, hS.F ht⟩) hS.2.2 dX4_takeName_74
  have B44 : ∀ (v1 : Int32) (H : Heap) (locs : List Loc) (ls : Array Slot), f_R_takeName_44 N iR iT wT tx iB lB aB iC aC v1 = some q → va_P (dC, dI) vwCl (zzR ad cy (ad 3) (ad 10) iR iT wT tx iB lB aB iC aC) H → va_D A (zzR ad cy (ad 3) (ad 10) iR iT wT tx iB lB aB iC aC) → va_S A s.heap H locs → lv_has ls 3 [(0, .ref (ad 0)), (1, .int v1)] → W p l e ({ frames := 3, cells := 0, slots := 0, locals := 74 } : Room) s m args below meth c H locs 0 0 QQ (F0 m 44 ls []) := by
    intro v1 H locs ls h hP hD hS hl
    unfold f_R_takeName_44 at h
    refine lv_iload_n hx hb dX4_takeName_44 rfl (lv_at hl 1 rfl) ?_
    refine lv_iconst (v := (-1)) hx hb dX4_takeName_45 (by decide) ?_
    refine lv_icmp_ne (tgt := 64) hx hb dX4_takeName_46 (by decide) (fun cz => ?_) (fun cz => ?_)
    · have h := g_f h cz
      exact B64 v1 iB lB H locs ls h hP hD hS (lv_sub hl [0, 1] rfl)
    · have h := g_t h cz
      refine lv_aload_n hx hb dX4_takeName_49 rfl (lv_at hl 0 rfl) ?_
      refine va_get (D := (dC, dI)) (ci := 4) (v := .ref (ad 3)) (C := RX4) (T := TX4) (N := 5) hx hb hts ki4 hown hK hP 0 rfl rfl 1 (by decide) kf24 (fun _ h9 => h9) rfl dX4_takeName_50 ?_
      refine lv_aload_n hx hb dX4_takeName_53 rfl (lv_at hl 0 rfl) ?_
      refine va_get (D := (dC, dI)) (ci := 4) (v := .ref (ad 1)) (C := RX4) (T := TX4) (N := 5) hx hb hts ki4 hown hK hP 0 rfl rfl 0 (by decide) kf20 (fun _ h9 => h9) rfl dX4_takeName_54 ?_
      refine va_get (D := (dC, dI)) (ci := 5) (v := .long wT) (C := RX5) (T := TX5) (N := 6) hx hb hts ki5 hown hK hP 1 rfl rfl 5 (by decide) kf48 (fun _ h9 => h9) rfl dX4_takeName_57 ?_
      obtain ⟨q60, e60, h⟩ := g_b h
      refine callVi (cc := cX4_takeName) (ws' := zzR ad cy (ad 3) (ad 10) iR iT wT tx (us iB [(3, q60.2.1)]) (us lB [(2, q60.2.2)]) aB iC aC) (As := [.long wT]) (rest := []) ⟨hx, hb, hml, hown, hts⟩ (c_B_addName l dC dI cy (fun i => ad (i + 3)) H.size wT iB lB aB iC aC q60 e60) (cwV 1 hts (goodV m_ml_X4_191 m_im_X0_addName m_se_X0_addName m_in_X0 m_cd_X0_addName) rfl rfl rfl (by decide +kernel) ⟨Nat.le_of_ble_eq_true rfl, Nat.le_of_ble_eq_true rfl⟩) hN hK hP hD hS hA [3, 4, 5, 6, 7, 8, 9, 10, 11, 12, 13, 14, 15, 16, 17, 18] [none, none, none, some 0, some 1, some 2, some 3, some 4, some 5, some 6, some 7, some 8, some 9, some 10, some 11, some 12, some 13, some 14, some 15] rfl rfl rfl rfl rfl rfl 3 rfl rfl rfl hl.1 rfl (Nat.le_of_ble_eq_true rfl) dX4_takeName_60 ⟨Nat.zero_le _, Nat.zero_le _⟩ (fun H locs hP hD hS => ?_)
      refine lv_istore_n (lv' := [(1, .int q60.1), (0, .ref (ad 0))]) hx hb dX4_takeName_63 rfl hl (by decide) rfl (fun ls hl => ?_)
      exact B64 q60.1 ((us iB [(3, q60.2.1)])) ((us lB [(2, q60.2.2)])) H locs ls h hP hD hS (lv_sub hl [1, 0] rfl)
  intro H locs hP hD hS
  unfold f_R_takeName at h
  refine lv_aload_n hx hb dX4_takeName_0 rfl (lv_at hl 0 rfl) ?_
  refine va_get (D := (dC, dI)) (ci := 4) (v := .ref (ad 3)) (C := RX4) (T := TX4) (N := 5) hx hb hts ki4 hown hK hP 0 rfl rfl 1 (by decide) kf24 (fun _ h9 => h9) rfl dX4_takeName_1 ?_
  refine lv_aload_n hx hb dX4_takeName_4 rfl (lv_at hl 0 rfl) ?_
  refine va_get (D := (dC, dI)) (ci := 4) (v := .ref (ad 1)) (C := RX4) (T := TX4) (N := 5) hx hb hts ki4 hown hK hP 0 rfl rfl 0 (by decide) kf20 (fun _ h9 => h9) rfl dX4_takeName_5 ?_
  refine va_get (D := (dC, dI)) (ci := 5) (v := .long wT) (C := RX5) (T := TX5) (N := 6) hx hb hts ki5 hown hK hP 1 rfl rfl 5 (by decide) kf48 (fun _ h9 => h9) rfl dX4_takeName_8 ?_
  obtain ⟨q11, e11, h⟩ := g_b h
  refine callVi (cc := cX4_takeName) (ws' := zzR ad cy (ad 3) (ad 10) iR iT wT tx iB lB aB iC aC) (As := [.long wT]) (rest := []) ⟨hx, hb, hml, hown, hts⟩ (c_B_findName l dC dI cy (fun i => ad (i + 3)) H.size N wT iB lB aB iC aC q11 e11) (cwV 1 hts (goodV m_ml_X4_142 m_im_X0_findName m_se_X0_findName m_in_X0 m_cd_X0_findName) rfl rfl rfl (by decide +kernel) ⟨Nat.le_of_ble_eq_true rfl, Nat.le_of_ble_eq_true rfl⟩) hN hK hP hD hS hA [3, 4, 5, 6, 7, 8, 9, 10, 11, 12, 13, 14, 15, 16, 17, 18] [none, none, none, some 0, some 1, some 2, some 3, some 4, some 5, some 6, some 7, some 8, some 9, some 10, some 11, some 12, some 13, some 14, some 15] rfl rfl rfl rfl rfl rfl 3 rfl rfl rfl hl.1 rfl (Nat.le_of_ble_eq_true rfl) dX4_takeName_11 ⟨Nat.zero_le _, Nat.zero_le _⟩ (fun H locs hP hD hS => ?_)
  refine lv_istore_n (lv' := [(1, .int q11), (0, .ref (ad 0))]) hx hb dX4_takeName_14 rfl hl (by decide) rfl (fun ls hl => ?_)
  refine lv_iload_n hx hb dX4_takeName_15 rfl (lv_at hl 0 rfl) ?_
  refine lv_iconst (v := (-1)) hx hb dX4_takeName_16 (by decide) ?_
  refine lv_icmp_ne (tgt := 44) hx hb dX4_takeName_17 (by decide) (fun cz => ?_) (fun cz => ?_)
  · have h := g_f h cz
    exact B44 q11 H locs ls h hP hD hS (lv_sub hl [1, 0] rfl)
  · have h := g_t h cz
    refine lv_aload_n hx hb dX4_takeName_20 rfl (lv_at hl 1 rfl) ?_
    refine va_get (D := (dC, dI)) (ci := 4) (v := .ref (ad 3)) (C := RX4) (T := TX4) (N := 5) hx hb hts ki4 hown hK hP 0 rfl rfl 1 (by decide) kf24 (fun _ h9 => h9) rfl dX4_takeName_21 ?_
    refine lv_aload_n hx hb dX4_takeName_24 rfl (lv_at hl 1 rfl) ?_
    refine va_get (D := (dC, dI)) (ci := 4) (v := .ref (ad 1)) (C := RX4) (T := TX4) (N := 5) hx hb hts ki4 hown hK hP 0 rfl rfl 0 (by decide) kf20 (fun _ h9 => h9) rfl dX4_takeName_25 ?_
    refine va_get (D := (dC, dI)) (ci := 5) (v := .long wT) (C := RX5) (T := TX5) (N := 6) hx hb hts ki5 hown hK hP 1 rfl rfl 5 (by decide) kf48 (fun _ h9 => h9) rfl dX4_takeName_28 ?_
    obtain ⟨q31, e31, h⟩ := g_b h
    refine callVi (cc := cX4_takeName) (ws' := zzR ad cy (ad 3) (ad 10) iR iT wT tx iB lB aB iC aC) (As := [.long wT]) (rest := []) ⟨hx, hb, hml, hown, hts⟩ (c_B_findRole l dC dI cy (fun i => ad (i + 3)) H.size N wT iB lB aB iC aC q31 e31) (cwV 1 hts (goodV m_ml_X4_138 m_im_X0_findRole m_se_X0_findRole m_in_X0 m_cd_X0_findRole) rfl rfl rfl (by decide +kernel) ⟨Nat.le_of_ble_eq_true rfl, Nat.le_of_ble_eq_true rfl⟩) hN hK hP hD hS hA [3, 4, 5, 6, 7, 8, 9, 10, 11, 12, 13, 14, 15, 16, 17, 18] [none, none, none, some 0, some 1, some 2, some 3, some 4, some 5, some 6, some 7, some 8, some 9, some 10, some 11, some 12, some 13, some 14, some 15] rfl rfl rfl rfl rfl rfl 3 rfl rfl rfl hl.1 rfl (Nat.le_of_ble_eq_true rfl) dX4_takeName_31 ⟨Nat.zero_le _, Nat.zero_le _⟩ (fun H locs hP hD hS => ?_)
    refine lv_iconst (v := (-1)) hx hb dX4_takeName_34 (by decide) ?_
    refine lv_icmp_eq (tgt := 44) hx hb dX4_takeName_35 (by decide) (fun cz => ?_) (fun cz => ?_)
    · have h := g_t h cz
      exact B44 q11 H locs ls h hP hD hS (lv_sub hl [1, 0] rfl)
    · have h := g_f h cz
      refine lv_aload_n hx hb dX4_takeName_38 rfl (lv_at hl 1 rfl) ?_
      refine lv_iconst (v := 4) hx hb dX4_takeName_39 (by decide) ?_
      obtain ⟨q40, e40, h⟩ := g_b h
      refine callVis (cc := cX4_takeName) (w1 := zzR ad cy (ad 3) (ad 10) (us iR [(3, q40.2.1), (4, q40.2.2)]) iT wT tx iB lB aB iC aC) (As := [.int ((4 : Int32))]) (rest := []) ⟨hx, hb, hml, hown, hts⟩ (c_R_failHere l dC dI cy ad H.size ((4 : Int32)) iR iT wT tx iB lB aB iC aC q40 e40) (cwV 1 hts (goodV m_ml_X4_77 m_im_X4_failHere m_se_X4_failHere m_in_X4 m_cd_X4_failHere) rfl rfl rfl (by decide +kernel) ⟨Nat.le_of_ble_eq_true rfl, Nat.le_of_ble_eq_true rfl⟩) hN hK hP hD hS hA rfl 0 rfl rfl rfl hl.1 rfl (Nat.le_of_ble_eq_true rfl) dX4_takeName_40 ⟨Nat.zero_le _, Nat.zero_le _⟩ (fun H locs hP hD hS => ?_)
      have h' := Option.some.inj h
      rw [← hQQ]
      exact W.iret (v := q40.1) hx hb hr (fun t ht hW => ⟨⟨q40.1, (), rfl, by rw [← h'], by rw [← hWQ, ← h', ht]; exact hP, va_K.moved hW.alike hK⟩, hS.F ht⟩) hS.2.2 dX4_takeName_43
