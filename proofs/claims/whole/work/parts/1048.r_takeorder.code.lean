def f_R_takeOrder_93 (N : Nat) (iR3 : Int32) (iR4 : Int32) (iT1 : Int32) (iT2 : Int32) (iT3 : Int32) (iT4 : Int32) (wT : Int64) (tx : Nat → Int32) (iB3 : Int32) (iB5 : Int32) (iB7 : Int32) (iB13 : Int32) (iB14 : Int32) (lB2 : Nat → Int64) (lB4 : Nat → Int64) (aB6 : Nat → Int32) (aB12 : Nat → Int32) (v1 : Int32) (x_iR3 : Int32) (x_iR4 : Int32) (x_iT2 : Int32) (x_iT3 : Int32) (x_iT4 : Int32) (x_wT : Int64) (x_iB5 : Int32) (x_lB4 : Nat → Int64) : Option (Int32 × Int32 × Int32 × Int32 × Int32 × Int64 × Int32 × Int32 × Int32 × (Nat → Int64) × (Nat → Int32) × (Nat → Int32)) := (f_R_fail ((6 : Int32)) v1 x_iR3 x_iR4).bind fun q97 => (some (q97.2.1, q97.2.2, x_iT2, x_iT3, x_iT4, x_wT, x_iB5, iB7, iB14, x_lB4, aB6, aB12))
def f_R_takeOrder (N : Nat) (iR3 : Int32) (iR4 : Int32) (iT1 : Int32) (iT2 : Int32) (iT3 : Int32) (iT4 : Int32) (wT : Int64) (tx : Nat → Int32) (iB3 : Int32) (iB5 : Int32) (iB7 : Int32) (iB13 : Int32) (iB14 : Int32) (lB2 : Nat → Int64) (lB4 : Nat → Int64) (aB6 : Nat → Int32) (aB12 : Nat → Int32) : Option (Int32 × Int32 × Int32 × Int32 × Int32 × Int64 × Int32 × Int32 × Int32 × (Nat → Int64) × (Nat → Int32) × (Nat → Int32)) := (f_T_step N iT1 iT2 iT3 iT4 wT tx).bind fun q4 => ((f_R_takeRole N iR3 iR4 iT1 q4.1 q4.2.1 q4.2.2.1 q4.2.2.2 tx iB3 iB5 lB2 lB4).bind fun q16 => (if q16.1 = (-1 : Int32) then (some (q16.2.1, q16.2.2.1, q16.2.2.2.1, q16.2.2.2.2.1, q16.2.2.2.2.2.1, q16.2.2.2.2.2.2.1, q16.2.2.2.2.2.2.2.1, iB7, iB14, q16.2.2.2.2.2.2.2.2, aB6, aB12)) else ((f_B_isSingle q16.1 iB13).bind fun q31 => (if q31 = 0 then ((f_R_takeRole N q16.2.1 q16.2.2.1 iT1 q16.2.2.2.1 q16.2.2.2.2.1 q16.2.2.2.2.2.1 q16.2.2.2.2.2.2.1 tx iB3 q16.2.2.2.2.2.2.2.1 lB2 q16.2.2.2.2.2.2.2.2).bind fun q55 => (if q55.1 = (-1 : Int32) then (some (q55.2.1, q55.2.2.1, q55.2.2.2.1, q55.2.2.2.2.1, q55.2.2.2.2.2.1, q55.2.2.2.2.2.2.1, q55.2.2.2.2.2.2.2.1, iB7, iB14, q55.2.2.2.2.2.2.2.2, aB6, aB12)) else (if q55.1 = q16.1 then (f_R_takeOrder_93 N iR3 iR4 iT1 iT2 iT3 iT4 wT tx iB3 iB5 iB7 iB13 iB14 lB2 lB4 aB6 aB12 q16.2.2.2.2.1 q55.2.1 q55.2.2.1 q55.2.2.2.1 q55.2.2.2.2.1 q55.2.2.2.2.2.1 q55.2.2.2.2.2.2.1 q55.2.2.2.2.2.2.2.1 q55.2.2.2.2.2.2.2.2) else ((f_B_isSingle q55.1 iB13).bind fun q75 => (if q75 = 0 then ((f_B_isRoleUnder q55.1 q16.1 aB12).bind fun q87 => (if q87 = 0 then ((f_R_takeEnd N q55.2.1 q55.2.2.1 iT1 q55.2.2.2.1 q55.2.2.2.2.1 q55.2.2.2.2.2.1 q55.2.2.2.2.2.2.1 tx).bind fun q105 => (if q105.1 = 0 then (some (q105.2.1, q105.2.2.1, q105.2.2.2.1, q105.2.2.2.2.1, q105.2.2.2.2.2.1, q105.2.2.2.2.2.2, q55.2.2.2.2.2.2.2.1, iB7, iB14, q55.2.2.2.2.2.2.2.2, aB6, aB12)) else ((f_B_addOrder N q16.1 q55.1 iB7 iB14 aB6 aB12).bind fun q117 => (some (q105.2.1, q105.2.2.1, q105.2.2.2.1, q105.2.2.2.2.1, q105.2.2.2.2.2.1, q105.2.2.2.2.2.2, q55.2.2.2.2.2.2.2.1, q117.1, q117.2.1, q55.2.2.2.2.2.2.2.2, q117.2.2.1, q117.2.2.2))))) else (f_R_takeOrder_93 N iR3 iR4 iT1 iT2 iT3 iT4 wT tx iB3 iB5 iB7 iB13 iB14 lB2 lB4 aB6 aB12 q16.2.2.2.2.1 q55.2.1 q55.2.2.1 q55.2.2.2.1 q55.2.2.2.2.1 q55.2.2.2.2.2.1 q55.2.2.2.2.2.2.1 q55.2.2.2.2.2.2.2.1 q55.2.2.2.2.2.2.2.2))) else (f_R_takeOrder_93 N iR3 iR4 iT1 iT2 iT3 iT4 wT tx iB3 iB5 iB7 iB13 iB14 lB2 lB4 aB6 aB12 q16.2.2.2.2.1 q55.2.1 q55.2.2.1 q55.2.2.2.1 q55.2.2.2.2.1 q55.2.2.2.2.2.1 q55.2.2.2.2.2.2.1 q55.2.2.2.2.2.2.2.1 q55.2.2.2.2.2.2.2.2)))))) else ((f_R_fail ((6 : Int32)) q4.2.1 q16.2.1 q16.2.2.1).bind fun q41 => (some (q41.2.1, q41.2.2, q16.2.2.2.1, q16.2.2.2.2.1, q16.2.2.2.2.2.1, q16.2.2.2.2.2.2.1, q16.2.2.2.2.2.2.2.1, iB7, iB14, q16.2.2.2.2.2.2.2.2, aB6, aB12)))))))
set_option maxHeartbeats 8000000 in
set_option maxRecDepth 100000 in
theorem c_R_takeOrder (l : Launch) (dC : Nat → ClassId) (dI : Nat → Nat → Nat) (cy : Nat → ClassId) (ad : Nat → Nat) (sz : Nat) (N : Nat) (iR : Nat → Int32) (iT : Nat → Int32) (wT : Int64) (tx : Nat → Int32) (iB : Nat → Int32) (lB : Nat → Nat → Int64) (aB : Nat → Nat → Int32) (iC : Nat → Int32) (aC : Nat → Nat → Int32) (q : Int32 × Int32 × Int32 × Int32 × Int32 × Int64 × Int32 × Int32 × Int32 × (Nat → Int64) × (Nat → Int32) × (Nat → Int32)) (h : f_R_takeOrder N (iR 3) (iR 4) (iT 1) (iT 2) (iT 3) (iT 4) wT tx (iB 3) (iB 5) (iB 7) (iB 13) (iB 14) (lB 2) (lB 4) (aB 6) (aB 12) = some q) : Met l yX4_takeOrder wsX4_takeOrder ({ frames := 4, cells := 0, slots := 0, locals := 84 } : Room) (cP (dC, dI) cy [.ref (ad 0)] (zzR ad cy (ad 3) (ad 10) iR iT wT tx iB lB aB iC aC) sz) (cQv (dC, dI) cy (zzR ad cy (ad 3) (ad 10) (us iR [(3, q.1), (4, q.2.1)]) (us iT [(2, q.2.2.1), (3, q.2.2.2.1), (4, q.2.2.2.2.1)]) q.2.2.2.2.2.1 tx (us iB [(5, q.2.2.2.2.2.2.1), (7, q.2.2.2.2.2.2.2.1), (14, q.2.2.2.2.2.2.2.2.1)]) (us lB [(4, q.2.2.2.2.2.2.2.2.2.1)]) (us aB [(6, q.2.2.2.2.2.2.2.2.2.2.1), (12, q.2.2.2.2.2.2.2.2.2.2.2)]) iC aC) (va_A (zzR ad cy (ad 3) (ad 10) iR iT wT tx iB lB aB iC aC) sz)) 0 0 (va_A (zzR ad cy (ad 3) (ad 10) iR iT wT tx iB lB aB iC aC) sz) := by
  refine Met.ofW (cc := cX4_takeOrder) (maxL := 4) (ret := none) (by decide) rfl ?_
  intro p e s m args below meth c s₁ B hml hv
  obtain ⟨hav, hsz, hP, hK, hD0, hN⟩ := hv
  have hx := B.exec
  have hb := B.bytes
  have hr := B.returns
  have hts := atoms_spec (ws := wsX4_takeOrder) B.pre
  have hown : s.vm.findClass RX4 = some m.cls := findClass_of_methodNamed B.named
  have hlocks := B.notSynchronized
  subst hsz
  have hD := hD0.self (sz := s.heap.size)
  generalize hAe : va_A (zzR ad cy (ad 3) (ad 10) iR iT wT tx iB lB aB iC aC) s.heap.size = A at hD ⊢
  have hA : ∀ q : Nat, s.heap.size ≤ q → A q := fun q h => by rw [← hAe]; exact Or.inr h
  have hS : va_S A s.heap s.heap [] := va_S.rf
  generalize hWQ : (zzR ad cy (ad 3) (ad 10) (us iR [(3, q.1), (4, q.2.1)]) (us iT [(2, q.2.2.1), (3, q.2.2.2.1), (4, q.2.2.2.2.1)]) q.2.2.2.2.2.1 tx (us iB [(5, q.2.2.2.2.2.2.1), (7, q.2.2.2.2.2.2.2.1), (14, q.2.2.2.2.2.2.2.2.1)]) (us lB [(4, q.2.2.2.2.2.2.2.2.2.1)]) (us aB [(6, q.2.2.2.2.2.2.2.2.2.2.1), (12, q.2.2.2.2.2.2.2.2.2.2.2)]) iC aC) = WQ
  generalize hQQ : MQ below (cQv (dC, dI) cy WQ A) args s 0 0 A = QQ
  have hl := lv_entry ([.ref (ad 0)] : List Value) (n := 4) (Nat.le_of_ble_eq_true rfl)
  have hfr := lg_entry_eq m ([.ref (ad 0)] : List Value) 4
  rw [← hav] at hfr
  rw [hfr]
  clear hfr hav
  generalize (lg_sl ([.ref (ad 0)] : List Value) ++ List.replicate (4 - (lg_sl ([.ref (ad 0)] : List Value)).length) Slot.unset).toArray = ls at hl ⊢
  have hl : lv_has ls 4 [(0, .ref (ad 0))] := hl
  have kf20 := hts _ (List.mem_cons_of_mem _ m_fl_X4_20)
  have ki4 := (fun w h => List.mem_cons_of_mem _ (i_X4 w h) : ∀ w ∈ u_ws RX4 TX4 5, w ∈ wsX4_takeOrder)
  have kf70 := hts _ (List.mem_cons_of_mem _ m_fl_X4_70)
  have ki5 := (fun w h => List.mem_cons_of_mem _ (i_X5 w h) : ∀ w ∈ u_ws RX5 TX5 6, w ∈ wsX4_takeOrder)
  have kf24 := hts _ (List.mem_cons_of_mem _ m_fl_X4_24)
  refine (?_ : ∀ (H : Heap) (locs : List Loc), va_P (dC, dI) vwCl (zzR ad cy (ad 3) (ad 10) iR iT wT tx iB lB aB iC aC) H → va_D A (zzR ad cy (ad 3) (ad 10) iR iT wT tx iB lB aB iC aC) → va_S A s.heap H locs → W p l e ({ frames := 4, cells := 0, slots := 0, locals := 84 } : Room) s m args below meth c H locs 0 0 QQ (F0 m 0 ls [])) s.heap [] hP hD hS
  clear hP hD hS
  have B93 : ∀ (v1 : Int32) (x_iR3 : Int32) (x_iR4 : Int32) (x_iT2 : Int32) (x_iT3 : Int32) (x_iT4 : Int32) (x_wT : Int64) (x_iB5 : Int32) (x_lB4 : Nat → Int64) (H : Heap) (locs : List Loc) (ls : Array Slot), f_R_takeOrder_93 N (iR 3) (iR 4) (iT 1) (iT 2) (iT 3) (iT 4) wT tx (iB 3) (iB 5) (iB 7) (iB 13) (iB 14) (lB 2) (lB 4) (aB 6) (aB 12) v1 x_iR3 x_iR4 x_iT2 x_iT3 x_iT4 x_wT x_iB5 x_lB4 = some q → va_P (dC, dI) vwCl (zzR ad cy (ad 3) (ad 10) (us iR [(3, x_iR3), (4, x_iR4)]) (us iT [(2, x_iT2), (3, x_iT3), (4, x_iT4)]) x_wT tx (us iB [(5, x_iB5)]) (us lB [(4, x_lB4)]) aB iC aC) H → va_D A (zzR ad cy (ad 3) (ad 10) (us iR [(3, x_iR3), (4, x_iR4)]) (us iT [(2, x_iT2), (3, x_iT3), (4, x_iT4)]) x_wT tx (us iB [(5, x_iB5)]) (us lB [(4, x_lB4)]) aB iC aC) → va_S A s.heap H locs → lv_has ls 4 [(0, .ref (ad 0)), (1, .int v1)] → W p l e ({ frames := 4, cells := 0, slots := 0, locals := 84 } : Room) s m args below meth c H locs 0 0 QQ (F0 m 93 ls []) := by
    intro v1 x_iR3 x_iR4 x_iT2 x_iT3 x_iT4 x_wT x_iB5 x_lB4 H locs ls h hP hD hS hl
    unfold f_R_takeOrder_93 at h
    refine lv_aload_n hx hb dX4_takeOrder_93 rfl (lv_at hl 0 rfl) ?_
    refine lv_bipush (v := 6) hx hb dX4_takeOrder_94 (by decide) ?_
    refine lv_iload_n hx hb dX4_takeOrder_96 rfl (lv_at hl 1 rfl) ?_
    obtain ⟨q97, e97, h⟩ := g_b h
    refine callVis (cc := cX4_takeOrder) (w1 := zzR ad cy (ad 3) (ad 10) (us iR [(3, q97.2.1), (4, q97.2.2)]) (us iT [(2, x_iT2), (3, x_iT3), (4, x_iT4)]) x_wT tx (us iB [(5, x_iB5)]) (us lB [(4, x_lB4)]) aB iC aC) (As := [.int ((6 : Int32)), .int v1]) (rest := []) ⟨hx, hb, hml, hown, hts⟩ (c_R_fail l dC dI cy ad H.size ((6 : Int32)) v1 ((us iR [(3, x_iR3), (4, x_iR4)])) ((us iT [(2, x_iT2), (3, x_iT3), (4, x_iT4)])) x_wT tx ((us iB [(5, x_iB5)])) ((us lB [(4, x_lB4)])) aB iC aC q97 e97) (cwV 2 hts (goodV m_ml_X4_73 m_im_X4_fail m_se_X4_fail m_in_X4 m_cd_X4_fail) rfl rfl rfl (by decide +kernel) ⟨Nat.le_of_ble_eq_true rfl, Nat.le_of_ble_eq_true rfl⟩) hN hK hP hD hS hA rfl 0 rfl rfl rfl hl.1 rfl (Nat.le_of_ble_eq_true rfl) dX4_takeOrder_97 ⟨Nat.zero_le _, Nat.zero_le _⟩ (fun H locs hP hD hS => ?_)
    refine lv_pop hx hb dX4_takeOrder_100 rfl ?_
    refine lv_goto (tgt := 120) hx hb dX4_takeOrder_101 (by decide) ?_
    have h' := Option.some.inj h
    rw [← hQQ]
    exact W.vret hx hb hr (fun t ht hW => ⟨⟨(), rfl, trivial, by rw [← hWQ, ← h', ht]; exact hP, va_K.moved hW.alike hK⟩, hS.F ht⟩) hS.2.2 dX4_takeOrder_120
  intro H locs hP hD hS
  unfold f_R_takeOrder at h
  refine lv_aload_n hx hb dX4_takeOrder_0 rfl (lv_at hl 0 rfl) ?_
  refine va_get (D := (dC, dI)) (ci := 4) (v := .ref (ad 1)) (C := RX4) (T := TX4) (N := 5) hx hb hts ki4 hown hK hP 0 rfl rfl 0 (by decide) kf20 (fun _ h9 => h9) rfl dX4_takeOrder_1 ?_
  obtain ⟨q4, e4, h⟩ := g_b h
  refine callVv (cc := cX4_takeOrder) (ws' := zzR ad cy (ad 3) (ad 10) iR (us iT [(2, q4.1), (3, q4.2.1), (4, q4.2.2.1)]) q4.2.2.2 tx iB lB aB iC aC) (As := []) (rest := []) ⟨hx, hb, hml, hown, hts⟩ (c_T_step l dC dI cy (fun i => ad (i + 1)) H.size N iT wT tx q4 e4) (cwV 0 hts (goodV m_ml_X4_87 m_im_X5_step m_se_X5_step m_in_X5 m_cd_X5_step) rfl rfl rfl (by decide +kernel) ⟨Nat.le_of_ble_eq_true rfl, Nat.le_of_ble_eq_true rfl⟩) hN hK hP hD hS hA [1, 2] [none, some 0, some 1, none, none, none, none, none, none, none, none, none, none, none, none, none, none, none, none] rfl rfl rfl rfl rfl rfl 1 rfl rfl rfl hl.1 rfl (Nat.le_of_ble_eq_true rfl) dX4_takeOrder_4 ⟨Nat.zero_le _, Nat.zero_le _⟩ (fun H locs hP hD hS => ?_)
  refine lv_aload_n hx hb dX4_takeOrder_7 rfl (lv_at hl 0 rfl) ?_
  refine va_get (D := (dC, dI)) (ci := 4) (v := .ref (ad 1)) (C := RX4) (T := TX4) (N := 5) hx hb hts ki4 hown hK hP 0 rfl rfl 0 (by decide) kf20 (fun _ h9 => h9) rfl dX4_takeOrder_8 ?_
  refine va_get (D := (dC, dI)) (ci := 5) (v := .int q4.2.1) (C := RX5) (T := TX5) (N := 6) hx hb hts ki5 hown hK hP 1 rfl rfl 3 (by decide) kf70 (fun _ h9 => h9) rfl dX4_takeOrder_11 ?_
  refine lv_istore_n (lv' := [(1, .int q4.2.1), (0, .ref (ad 0))]) hx hb dX4_takeOrder_14 rfl hl (by decide) rfl (fun ls hl => ?_)
  refine lv_aload_n hx hb dX4_takeOrder_15 rfl (lv_at hl 1 rfl) ?_
  obtain ⟨q16, e16, h⟩ := g_b h
  refine callVis (cc := cX4_takeOrder) (w1 := zzR ad cy (ad 3) (ad 10) (us iR [(3, q16.2.1), (4, q16.2.2.1)]) (us iT [(2, q16.2.2.2.1), (3, q16.2.2.2.2.1), (4, q16.2.2.2.2.2.1)]) q16.2.2.2.2.2.2.1 tx (us iB [(5, q16.2.2.2.2.2.2.2.1)]) (us lB [(4, q16.2.2.2.2.2.2.2.2)]) aB iC aC) (As := []) (rest := []) ⟨hx, hb, hml, hown, hts⟩ (c_R_takeRole l dC dI cy ad H.size N iR ((us iT [(2, q4.1), (3, q4.2.1), (4, q4.2.2.1)])) q4.2.2.2 tx iB lB aB iC aC q16 e16) (cwV 0 hts (goodV m_ml_X4_117 m_im_X4_takeRole m_se_X4_takeRole m_in_X4 m_cd_X4_takeRole) rfl rfl rfl (by decide +kernel) ⟨Nat.le_of_ble_eq_true rfl, Nat.le_of_ble_eq_true rfl⟩) hN hK hP hD hS hA rfl 0 rfl rfl rfl hl.1 rfl (Nat.le_of_ble_eq_true rfl) dX4_takeOrder_16 ⟨Nat.zero_le _, Nat.zero_le _⟩ (fun H locs hP hD hS => ?_)
  refine lv_istore_n (lv' := [(2, .int q16.1), (1, .int q4.2.1), (0, .ref (ad 0))]) hx hb dX4_takeOrder_19 rfl hl (by decide) rfl (fun ls hl => ?_)
  refine lv_iload_n hx hb dX4_takeOrder_20 rfl (lv_at hl 0 rfl) ?_
  refine lv_iconst (v := (-1)) hx hb dX4_takeOrder_21 (by decide) ?_
  refine lv_icmp_ne (tgt := 26) hx hb dX4_takeOrder_22 (by decide) (fun cz => ?_) (fun cz => ?_)
  · have h := g_f h cz
    refine lv_aload_n hx hb dX4_takeOrder_26 rfl (lv_at hl 2 rfl) ?_
    refine va_get (D := (dC, dI)) (ci := 4) (v := .ref (ad 3)) (C := RX4) (T := TX4) (N := 5) hx hb hts ki4 hown hK hP 0 rfl rfl 1 (by decide) kf24 (fun _ h9 => h9) rfl dX4_takeOrder_27 ?_
    refine lv_iload_n hx hb dX4_takeOrder_30 rfl (lv_at hl 0 rfl) ?_
    obtain ⟨q31, e31, h⟩ := g_b h
    refine callVi (cc := cX4_takeOrder) (ws' := zzR ad cy (ad 3) (ad 10) (us iR [(3, q16.2.1), (4, q16.2.2.1)]) (us iT [(2, q16.2.2.2.1), (3, q16.2.2.2.2.1), (4, q16.2.2.2.2.2.1)]) q16.2.2.2.2.2.2.1 tx (us iB [(5, q16.2.2.2.2.2.2.2.1)]) (us lB [(4, q16.2.2.2.2.2.2.2.2)]) aB iC aC) (As := [.int q16.1]) (rest := []) ⟨hx, hb, hml, hown, hts⟩ (c_B_isSingle l dC dI cy (fun i => ad (i + 3)) H.size q16.1 ((us iB [(5, q16.2.2.2.2.2.2.2.1)])) ((us lB [(4, q16.2.2.2.2.2.2.2.2)])) aB iC aC q31 e31) (cwV 1 hts (goodV m_ml_X4_120 m_im_X0_isSingle m_se_X0_isSingle m_in_X0 m_cd_X0_isSingle) rfl rfl rfl (by decide +kernel) ⟨Nat.le_of_ble_eq_true rfl, Nat.le_of_ble_eq_true rfl⟩) hN hK hP hD hS hA [3, 4, 5, 6, 7, 8, 9, 10, 11, 12, 13, 14, 15, 16, 17, 18] [none, none, none, some 0, some 1, some 2, some 3, some 4, some 5, some 6, some 7, some 8, some 9, some 10, some 11, some 12, some 13, some 14, some 15] rfl rfl rfl rfl rfl rfl 3 rfl rfl rfl hl.1 rfl (Nat.le_of_ble_eq_true rfl) dX4_takeOrder_31 ⟨Nat.zero_le _, Nat.zero_le _⟩ (fun H locs hP hD hS => ?_)
    refine lv_if_eq (tgt := 46) hx hb dX4_takeOrder_34 (by decide) (fun cz => ?_) (fun cz => ?_)
    · have h := g_t h cz
      refine lv_aload_n hx hb dX4_takeOrder_46 rfl (lv_at hl 2 rfl) ?_
      refine va_get (D := (dC, dI)) (ci := 4) (v := .ref (ad 1)) (C := RX4) (T := TX4) (N := 5) hx hb hts ki4 hown hK hP 0 rfl rfl 0 (by decide) kf20 (fun _ h9 => h9) rfl dX4_takeOrder_47 ?_
      refine va_get (D := (dC, dI)) (ci := 5) (v := .int q16.2.2.2.2.1) (C := RX5) (T := TX5) (N := 6) hx hb hts ki5 hown hK hP 1 rfl rfl 3 (by decide) kf70 (fun _ h9 => h9) rfl dX4_takeOrder_50 ?_
      refine lv_istore_n (lv' := [(1, .int q16.2.2.2.2.1), (2, .int q16.1), (0, .ref (ad 0))]) hx hb dX4_takeOrder_53 rfl hl (by decide) rfl (fun ls hl => ?_)
      refine lv_aload_n hx hb dX4_takeOrder_54 rfl (lv_at hl 2 rfl) ?_
      obtain ⟨q55, e55, h⟩ := g_b h
      refine callVis (cc := cX4_takeOrder) (w1 := zzR ad cy (ad 3) (ad 10) (us iR [(3, q55.2.1), (4, q55.2.2.1)]) (us iT [(2, q55.2.2.2.1), (3, q55.2.2.2.2.1), (4, q55.2.2.2.2.2.1)]) q55.2.2.2.2.2.2.1 tx (us iB [(5, q55.2.2.2.2.2.2.2.1)]) (us lB [(4, q55.2.2.2.2.2.2.2.2)]) aB iC aC) (As := []) (rest := []) ⟨hx, hb, hml, hown, hts⟩ (c_R_takeRole l dC dI cy ad H.size N ((us iR [(3, q16.2.1), (4, q16.2.2.1)])) ((us iT [(2, q16.2.2.2.1), (3, q16.2.2.2.2.1), (4, q16.2.2.2.2.2.1)])) q16.2.2.2.2.2.2.1 tx ((us iB [(5, q16.2.2.2.2.2.2.2.1)])) ((us lB [(4, q16.2.2.2.2.2.2.2.2)])) aB iC aC q55 e55) (cwV 0 hts (goodV m_ml_X4_117 m_im_X4_takeRole m_se_X4_takeRole m_in_X4 m_cd_X4_takeRole) rfl rfl rfl (by decide +kernel) ⟨Nat.le_of_ble_eq_true rfl, Nat.le_of_ble_eq_true rfl⟩) hN hK hP hD hS hA rfl 0 rfl rfl rfl hl.1 rfl (Nat.le_of_ble_eq_true rfl) dX4_takeOrder_55 ⟨Nat.zero_le _, Nat.zero_le _⟩ (fun H locs hP hD hS => ?_)
      refine lv_istore_n (lv' := [(3, .int q55.1), (1, .int q16.2.2.2.2.1), (2, .int q16.1), (0, .ref (ad 0))]) hx hb dX4_takeOrder_58 rfl hl (by decide) rfl (fun ls hl => ?_)
      refine lv_iload_n hx hb dX4_takeOrder_59 rfl (lv_at hl 0 rfl) ?_
      refine lv_iconst (v := (-1)) hx hb dX4_takeOrder_60 (by decide) ?_
      refine lv_icmp_ne (tgt := 65) hx hb dX4_takeOrder_61 (by decide) (fun cz => ?_) (fun cz => ?_)
      · have h := g_f h cz
        refine lv_iload_n hx hb dX4_takeOrder_65 rfl (lv_at hl 0 rfl) ?_
        refine lv_iload_n hx hb dX4_takeOrder_66 rfl (lv_at hl 2 rfl) ?_
        refine lv_icmp_eq (tgt := 93) hx hb dX4_takeOrder_67 (by decide) (fun cz => ?_) (fun cz => ?_)
        · have h := g_t h cz
          exact B93 q16.2.2.2.2.1 q55.2.1 q55.2.2.1 q55.2.2.2.1 q55.2.2.2.2.1 q55.2.2.2.2.2.1 q55.2.2.2.2.2.2.1 q55.2.2.2.2.2.2.2.1 q55.2.2.2.2.2.2.2.2 H locs ls h hP hD hS (lv_sub hl [3, 1] rfl)
        · have h := g_f h cz
          refine lv_aload_n hx hb dX4_takeOrder_70 rfl (lv_at hl 3 rfl) ?_
          refine va_get (D := (dC, dI)) (ci := 4) (v := .ref (ad 3)) (C := RX4) (T := TX4) (N := 5) hx hb hts ki4 hown hK hP 0 rfl rfl 1 (by decide) kf24 (fun _ h9 => h9) rfl dX4_takeOrder_71 ?_
          refine lv_iload_n hx hb dX4_takeOrder_74 rfl (lv_at hl 0 rfl) ?_
          obtain ⟨q75, e75, h⟩ := g_b h
          refine callVi (cc := cX4_takeOrder) (ws' := zzR ad cy (ad 3) (ad 10) (us iR [(3, q55.2.1), (4, q55.2.2.1)]) (us iT [(2, q55.2.2.2.1), (3, q55.2.2.2.2.1), (4, q55.2.2.2.2.2.1)]) q55.2.2.2.2.2.2.1 tx (us iB [(5, q55.2.2.2.2.2.2.2.1)]) (us lB [(4, q55.2.2.2.2.2.2.2.2)]) aB iC aC) (As := [.int q55.1]) (rest := []) ⟨hx, hb, hml, hown, hts⟩ (c_B_isSingle l dC dI cy (fun i => ad (i + 3)) H.size q55.1 ((us iB [(5, q55.2.2.2.2.2.2.2.1)])) ((us lB [(4, q55.2.2.2.2.2.2.2.2)])) aB iC aC q75 e75) (cwV 1 hts (goodV m_ml_X4_120 m_im_X0_isSingle m_se_X0_isSingle m_in_X0 m_cd_X0_isSingle) rfl rfl rfl (by decide +kernel) ⟨Nat.le_of_ble_eq_true rfl, Nat.le_of_ble_eq_true rfl⟩) hN hK hP hD hS hA [3, 4, 5, 6, 7, 8, 9, 10, 11, 12, 13, 14, 15, 16, 17, 18] [none, none, none, some 0, some 1, some 2, some 3, some 4, some 5, some 6, some 7, some 8, some 9, some 10, some 11, some 12, some 13, some 14, some 15] rfl rfl rfl rfl rfl rfl 3 rfl rfl rfl hl.1 rfl (Nat.le_of_ble_eq_true rfl) dX4_takeOrder_75 ⟨Nat.zero_le _, Nat.zero_le _⟩ (fun H locs hP hD hS => ?_)
          refine lv_if_ne (tgt := 93) hx hb dX4_takeOrder_78 (by decide) (fun cz => ?_) (fun cz => ?_)
          · have h := g_f h cz
            exact B93 q16.2.2.2.2.1 q55.2.1 q55.2.2.1 q55.2.2.2.1 q55.2.2.2.2.1 q55.2.2.2.2.2.1 q55.2.2.2.2.2.2.1 q55.2.2.2.2.2.2.2.1 q55.2.2.2.2.2.2.2.2 H locs ls h hP hD hS (lv_sub hl [3, 1] rfl)
          · have h := g_t h cz
            refine lv_aload_n hx hb dX4_takeOrder_81 rfl (lv_at hl 3 rfl) ?_
            refine va_get (D := (dC, dI)) (ci := 4) (v := .ref (ad 3)) (C := RX4) (T := TX4) (N := 5) hx hb hts ki4 hown hK hP 0 rfl rfl 1 (by decide) kf24 (fun _ h9 => h9) rfl dX4_takeOrder_82 ?_
            refine lv_iload_n hx hb dX4_takeOrder_85 rfl (lv_at hl 0 rfl) ?_
            refine lv_iload_n hx hb dX4_takeOrder_86 rfl (lv_at hl 2 rfl) ?_
            obtain ⟨q87, e87, h⟩ := g_b h
            refine callVi (cc := cX4_takeOrder) (ws' := zzR ad cy (ad 3) (ad 10) (us iR [(3, q55.2.1), (4, q55.2.2.1)]) (us iT [(2, q55.2.2.2.1), (3, q55.2.2.2.2.1), (4, q55.2.2.2.2.2.1)]) q55.2.2.2.2.2.2.1 tx (us iB [(5, q55.2.2.2.2.2.2.2.1)]) (us lB [(4, q55.2.2.2.2.2.2.2.2)]) aB iC aC) (As := [.int q55.1, .int q16.1]) (rest := []) ⟨hx, hb, hml, hown, hts⟩ (c_B_isRoleUnder l dC dI cy (fun i => ad (i + 3)) H.size q55.1 q16.1 ((us iB [(5, q55.2.2.2.2.2.2.2.1)])) ((us lB [(4, q55.2.2.2.2.2.2.2.2)])) aB iC aC q87 e87) (cwV 2 hts (goodV m_ml_X4_124 m_im_X0_isRoleUnder m_se_X0_isRoleUnder m_in_X0 m_cd_X0_isRoleUnder) rfl rfl rfl (by decide +kernel) ⟨Nat.le_of_ble_eq_true rfl, Nat.le_of_ble_eq_true rfl⟩) hN hK hP hD hS hA [3, 4, 5, 6, 7, 8, 9, 10, 11, 12, 13, 14, 15, 16, 17, 18] [none, none, none, some 0, some 1, some 2, some 3, some 4, some 5, some 6, some 7, some 8, some 9, some 10, some 11, some 12, some 13, some 14, some 15] rfl rfl rfl rfl rfl rfl 3 rfl rfl rfl hl.1 rfl (Nat.le_of_ble_eq_true rfl) dX4_takeOrder_87 ⟨Nat.zero_le _, Nat.zero_le _⟩ (fun H locs hP hD hS => ?_)
            refine lv_if_eq (tgt := 104) hx hb dX4_takeOrder_90 (by decide) (fun cz => ?_) (fun cz => ?_)
            · have h := g_t h cz
              refine lv_aload_n hx hb dX4_takeOrder_104 rfl (lv_at hl 3 rfl) ?_
              obtain ⟨q105, e105, h⟩ := g_b h
              refine callVis (cc := cX4_takeOrder) (w1 := zzR ad cy (ad 3) (ad 10) (us iR [(3, q105.2.1), (4, q105.2.2.1)]) (us iT [(2, q105.2.2.2.1), (3, q105.2.2.2.2.1), (4, q105.2.2.2.2.2.1)]) q105.2.2.2.2.2.2 tx (us iB [(5, q55.2.2.2.2.2.2.2.1)]) (us lB [(4, q55.2.2.2.2.2.2.2.2)]) aB iC aC) (As := []) (rest := []) ⟨hx, hb, hml, hown, hts⟩ (c_R_takeEnd l dC dI cy ad H.size N ((us iR [(3, q55.2.1), (4, q55.2.2.1)])) ((us iT [(2, q55.2.2.2.1), (3, q55.2.2.2.2.1), (4, q55.2.2.2.2.2.1)])) q55.2.2.2.2.2.2.1 tx ((us iB [(5, q55.2.2.2.2.2.2.2.1)])) ((us lB [(4, q55.2.2.2.2.2.2.2.2)])) aB iC aC q105 e105) (cwV 0 hts (goodV m_ml_X4_104 m_im_X4_takeEnd m_se_X4_takeEnd m_in_X4 m_cd_X4_takeEnd) rfl rfl rfl (by decide +kernel) ⟨Nat.le_of_ble_eq_true rfl, Nat.le_of_ble_eq_true rfl⟩) hN hK hP hD hS hA rfl 0 rfl rfl rfl hl.1 rfl (Nat.le_of_ble_eq_true rfl) dX4_takeOrder_105 ⟨Nat.zero_le _, Nat.zero_le _⟩ (fun H locs hP hD hS => ?_)
              refine lv_if_eq (tgt := 120) hx hb dX4_takeOrder_108 (by decide) (fun cz => ?_) (fun cz => ?_)
              · have h := g_t h cz
                have h' := Option.some.inj h
                rw [← hQQ]
                exact W.vret hx hb hr (fun t ht hW => ⟨⟨(), rfl, trivial, by rw [← hWQ, ← h', ht]; exact hP, va_K.moved hW.alike hK⟩, hS.F ht⟩) hS.2.2 dX4_takeOrder_120
              · have h := g_f h cz
                refine lv_aload_n hx hb dX4_takeOrder_111 rfl (lv_at hl 3 rfl) ?_
                refine va_get (D := (dC, dI)) (ci := 4) (v := .ref (ad 3)) (C := RX4) (T := TX4) (N := 5) hx hb hts ki4 hown hK hP 0 rfl rfl 1 (by decide) kf24 (fun _ h9 => h9) rfl dX4_takeOrder_112 ?_
                refine lv_iload_n hx hb dX4_takeOrder_115 rfl (lv_at hl 2 rfl) ?_
                refine lv_iload_n hx hb dX4_takeOrder_116 rfl (lv_at hl 0 rfl) ?_
                obtain ⟨q117, e117, h⟩ := g_b h
                refine callVv (cc := cX4_takeOrder) (ws' := zzR ad cy (ad 3) (ad 10) (us iR [(3, q105.2.1), (4, q105.2.2.1)]) (us iT [(2, q105.2.2.2.1), (3, q105.2.2.2.2.1), (4, q105.2.2.2.2.2.1)]) q105.2.2.2.2.2.2 tx (us iB [(5, q55.2.2.2.2.2.2.2.1), (7, q117.1), (14, q117.2.1)]) (us lB [(4, q55.2.2.2.2.2.2.2.2)]) (us aB [(6, q117.2.2.1), (12, q117.2.2.2)]) iC aC) (As := [.int q16.1, .int q55.1]) (rest := []) ⟨hx, hb, hml, hown, hts⟩ (c_B_addOrder l dC dI cy (fun i => ad (i + 3)) H.size N q16.1 q55.1 ((us iB [(5, q55.2.2.2.2.2.2.2.1)])) ((us lB [(4, q55.2.2.2.2.2.2.2.2)])) aB iC aC q117 e117) (cwV 2 hts (goodV m_ml_X4_128 m_im_X0_addOrder m_se_X0_addOrder m_in_X0 m_cd_X0_addOrder) rfl rfl rfl (by decide +kernel) ⟨Nat.le_of_ble_eq_true rfl, Nat.le_of_ble_eq_true rfl⟩) hN hK hP hD hS hA [3, 4, 5, 6, 7, 8, 9, 10, 11, 12, 13, 14, 15, 16, 17, 18] [none, none, none, some 0, some 1, some 2, some 3, some 4, some 5, some 6, some 7, some 8, some 9, some 10, some 11, some 12, some 13, some 14, some 15] rfl rfl rfl rfl rfl rfl 3 rfl rfl rfl hl.1 rfl (Nat.le_of_ble_eq_true rfl) dX4_takeOrder_117 ⟨Nat.zero_le _, Nat.zero_le _⟩ (fun H locs hP hD hS => ?_)
                have h' := Option.some.inj h
                rw [← hQQ]
                exact W.vret hx hb hr (fun t ht hW => ⟨⟨(), rfl, trivial, by rw [← hWQ, ← h', ht]; exact hP, va_K.moved hW.alike hK⟩, hS.F ht⟩) hS.2.2 dX4_takeOrder_120
            · have h := g_f h cz
              exact B93 q16.2.2.2.2.1 q55.2.1 q55.2.2.1 q55.2.2.2.1 q55.2.2.2.2.1 q55.2.2.2.2.2.1 q55.2.2.2.2.2.2.1 q55.2.2.2.2.2.2.2.1 q55.2.2.2.2.2.2.2.2 H locs ls h hP hD hS (lv_sub hl [3, 1] rfl)
      · have h := g_t h cz
        have h' := Option.some.inj h
        rw [← hQQ]
        exact W.vret hx hb hr (fun t ht hW => ⟨⟨(), rfl, trivial, by rw [← hWQ, ← h', ht]; exact hP, va_K.moved hW.alike hK⟩, hS.F ht⟩) hS.2.2 dX4_takeOrder_64
    · have h := g_f h cz
      refine lv_aload_n hx hb dX4_takeOrder_37 rfl (lv_at hl 2 rfl) ?_
      refine lv_bipush (v := 6) hx hb dX4_takeOrder_38 (by decide) ?_
      refine lv_iload_n hx hb dX4_takeOrder_40 rfl (lv_at hl 1 rfl) ?_
      obtain ⟨q41, e41, h⟩ := g_b h
      refine callVis (cc := cX4_takeOrder) (w1 := zzR ad cy (ad 3) (ad 10) (us iR [(3, q41.2.1), (4, q41.2.2)]) (us iT [(2, q16.2.2.2.1), (3, q16.2.2.2.2.1), (4, q16.2.2.2.2.2.1)]) q16.2.2.2.2.2.2.1 tx (us iB [(5, q16.2.2.2.2.2.2.2.1)]) (us lB [(4, q16.2.2.2.2.2.2.2.2)]) aB iC aC) (As := [.int ((6 : Int32)), .int q4.2.1]) (rest := []) ⟨hx, hb, hml, hown, hts⟩ (c_R_fail l dC dI cy ad H.size ((6 : Int32)) q4.2.1 ((us iR [(3, q16.2.1), (4, q16.2.2.1)])) ((us iT [(2, q16.2.2.2.1), (3, q16.2.2.2.2.1), (4, q16.2.2.2.2.2.1)])) q16.2.2.2.2.2.2.1 tx ((us iB [(5, q16.2.2.2.2.2.2.2.1)])) ((us lB [(4, q16.2.2.2.2.2.2.2.2)])) aB iC aC q41 e41) (cwV 2 hts (goodV m_ml_X4_73 m_im_X4_fail m_se_X4_fail m_in_X4 m_cd_X4_fail) rfl rfl rfl (by decide +kernel) ⟨Nat.le_of_ble_eq_true rfl, Nat.le_of_ble_eq_true rfl⟩) hN hK hP hD hS hA rfl 0 rfl rfl rfl hl.1 rfl (Nat.le_of_ble_eq_true rfl) dX4_takeOrder_41 ⟨Nat.zero_le _, Nat.zero_le _⟩ (fun H locs hP hD hS => ?_)
      refine lv_pop hx hb dX4_takeOrder_44 rfl ?_
      have h' := Option.some.inj h
      rw [← hQQ]
      exact W.vret hx hb hr (fun t ht hW => ⟨⟨(), rfl, trivial, by rw [← hWQ, ← h', ht]; exact hP, va_K.moved hW.alike hK⟩, hS.F ht⟩) hS.2.2 dX4_takeOrder_45
  · have h := g_t h cz
    have h' := Option.some.inj h
    rw [← hQQ]
    exact W.vret hx hb hr (fun t ht hW => ⟨⟨(), rfl, trivial, by rw [← hWQ, ← h', ht]; exact hP, va_K.moved hW.alike hK⟩, hS.F ht⟩) hS.2.2 dX4_takeOrder_25
