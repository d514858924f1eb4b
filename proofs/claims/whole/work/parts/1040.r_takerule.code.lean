def f_R_takeRule_100 (N : Nat) (iR : Nat → Int32) (iT : Nat → Int32) (wT : Int64) (tx : Nat → Int32) (iB : Nat → Int32) (lB : Nat → Nat → Int64) (aB : Nat → Nat → Int32) (iC : Nat → Int32) (aC : Nat → Nat → Int32) (v1 : Int32) (s0 : Int32) (x_iR : Nat → Int32) (x_iT : Nat → Int32) (x_wT : Int64) (x_iB : Nat → Int32) (x_lB : Nat → Nat → Int64) (x_iC : Nat → Int32) (x_aC : Nat → Nat → Int32) : Option ((Nat → Int32) × (Nat → Int32) × Int64 × (Nat → Int32) × (Nat → Nat → Int64) × (Nat → Nat → Int32) × (Nat → Int32) × (Nat → Nat → Int32)) := (f_T_step N ((x_iT 1)) ((x_iT 2)) ((x_iT 3)) ((x_iT 4)) x_wT tx).bind fun q105 => ((f_R_takeConcept N (f_R_takeOne N 14) ((0 : Int32)) x_iR ((us x_iT [(2, q105.1), (3, q105.2.1), (4, q105.2.2.1)])) q105.2.2.2 tx x_iB x_lB aB x_iC x_aC).bind fun q110 => (if q110.1 = (-1 : Int32) then (some (q110.2.1, q110.2.2.1, q110.2.2.2.1, q110.2.2.2.2.1, q110.2.2.2.2.2.1, aB, q110.2.2.2.2.2.2.1, q110.2.2.2.2.2.2.2)) else ((f_R_takeEnd N ((q110.2.1 3)) ((q110.2.1 4)) ((q110.2.2.1 1)) ((q110.2.2.1 2)) ((q110.2.2.1 3)) ((q110.2.2.1 4)) q110.2.2.2.1 tx).bind fun q120 => (if q120.1 = 0 then (some ((us q110.2.1 [(3, q120.2.1), (4, q120.2.2.1)]), (us q110.2.2.1 [(2, q120.2.2.2.1), (3, q120.2.2.2.2.1), (4, q120.2.2.2.2.2.1)]), q120.2.2.2.2.2.2, q110.2.2.2.2.1, q110.2.2.2.2.2.1, aB, q110.2.2.2.2.2.2.1, q110.2.2.2.2.2.2.2)) else ((f_B_addRule s0 v1 q110.1 ((q110.2.2.2.2.1 7)) ((q110.2.2.2.2.1 9)) ((aB 6)) ((aB 8))).bind fun q133 => (some ((us q110.2.1 [(3, q120.2.1), (4, q120.2.2.1)]), (us q110.2.2.1 [(2, q120.2.2.2.1), (3, q120.2.2.2.2.1), (4, q120.2.2.2.2.2.1)]), q120.2.2.2.2.2.2, (us q110.2.2.2.2.1 [(7, q133.1), (9, q133.2.1)]), q110.2.2.2.2.2.1, (us aB [(6, q133.2.2.1), (8, q133.2.2.2)]), q110.2.2.2.2.2.2.1, q110.2.2.2.2.2.2.2)))))))
def f_R_takeRule_81 (N : Nat) (iR : Nat → Int32) (iT : Nat → Int32) (wT : Int64) (tx : Nat → Int32) (iB : Nat → Int32) (lB : Nat → Nat → Int64) (aB : Nat → Nat → Int32) (iC : Nat → Int32) (aC : Nat → Nat → Int32) (v1 : Int32) (x_iR : Nat → Int32) (x_iT : Nat → Int32) (x_wT : Int64) (x_iB : Nat → Int32) (x_lB : Nat → Nat → Int64) (x_iC : Nat → Int32) (x_aC : Nat → Nat → Int32) : Option ((Nat → Int32) × (Nat → Int32) × Int64 × (Nat → Int32) × (Nat → Nat → Int64) × (Nat → Nat → Int32) × (Nat → Int32) × (Nat → Nat → Int32)) := if x_wT = (60 : Int64) then (f_R_takeRule_100 N iR iT wT tx iB lB aB iC aC v1 ((0 : Int32)) x_iR x_iT x_wT x_iB x_lB x_iC x_aC) else (f_R_takeRule_100 N iR iT wT tx iB lB aB iC aC v1 ((1 : Int32)) x_iR x_iT x_wT x_iB x_lB x_iC x_aC)
def f_R_takeRule (N : Nat) (iR : Nat → Int32) (iT : Nat → Int32) (wT : Int64) (tx : Nat → Int32) (iB : Nat → Int32) (lB : Nat → Nat → Int64) (aB : Nat → Nat → Int32) (iC : Nat → Int32) (aC : Nat → Nat → Int32) : Option ((Nat → Int32) × (Nat → Int32) × Int64 × (Nat → Int32) × (Nat → Nat → Int64) × (Nat → Nat → Int32) × (Nat → Int32) × (Nat → Nat → Int32)) := (f_T_beginsConcept ((iT 4)) wT).bind fun q4 => (if q4 = 0 then ((f_R_misplaced ((iR 3)) ((iR 4)) ((iT 3)) ((iT 4))).bind fun q11 => (some ((us iR [(3, q11.2.1), (4, q11.2.2)]), iT, wT, iB, lB, aB, iC, aC))) else (if (iB 9) < (12 : Int32) then ((f_R_takeConcept N (f_R_takeOne N 14) ((0 : Int32)) iR iT wT tx iB lB aB iC aC).bind fun q37 => (if q37.1 = (-1 : Int32) then (some (q37.2.1, q37.2.2.1, q37.2.2.2.1, q37.2.2.2.2.1, q37.2.2.2.2.2.1, aB, q37.2.2.2.2.2.2.1, q37.2.2.2.2.2.2.2)) else (if q37.2.2.2.1 = (60 : Int64) then (f_R_takeRule_81 N iR iT wT tx iB lB aB iC aC q37.1 q37.2.1 q37.2.2.1 q37.2.2.2.1 q37.2.2.2.2.1 q37.2.2.2.2.2.1 q37.2.2.2.2.2.2.1 q37.2.2.2.2.2.2.2) else (if q37.2.2.2.1 = (61 : Int64) then (f_R_takeRule_81 N iR iT wT tx iB lB aB iC aC q37.1 q37.2.1 q37.2.2.1 q37.2.2.2.1 q37.2.2.2.2.1 q37.2.2.2.2.2.1 q37.2.2.2.2.2.2.1 q37.2.2.2.2.2.2.2) else ((f_R_misplaced ((q37.2.1 3)) ((q37.2.1 4)) ((q37.2.2.1 3)) ((q37.2.2.1 4))).bind fun q76 => (some ((us q37.2.1 [(3, q76.2.1), (4, q76.2.2)]), q37.2.2.1, q37.2.2.2.1, q37.2.2.2.2.1, q37.2.2.2.2.2.1, aB, q37.2.2.2.2.2.2.1, q37.2.2.2.2.2.2.2))))))) else ((f_R_failHere ((3 : Int32)) ((iR 3)) ((iR 4)) ((iT 3))).bind fun q30 => (some ((us iR [(3, q30.2.1), (4, q30.2.2)]), iT, wT, iB, lB, aB, iC, aC)))))
set_option maxHeartbeats 8000000 in
set_option maxRecDepth 100000 in
theorem c_R_takeRule (l : Launch) (dC : Nat → ClassId) (dI : Nat → Nat → Nat) (cy : Nat → ClassId) (ad : Nat → Nat) (sz : Nat) (N : Nat) (iR : Nat → Int32) (iT : Nat → Int32) (wT : Int64) (tx : Nat → Int32) (iB : Nat → Int32) (lB : Nat → Nat → Int64) (aB : Nat → Nat → Int32) (iC : Nat → Int32) (aC : Nat → Nat → Int32) (q : (Nat → Int32) × (Nat → Int32) × Int64 × (Nat → Int32) × (Nat → Nat → Int64) × (Nat → Nat → Int32) × (Nat → Int32) × (Nat → Nat → Int32)) (h : f_R_takeRule N iR iT wT tx iB lB aB iC aC = some q) : Met l yX4_takeRule wsX4_takeRule ({ frames := 89, cells := 0, slots := 0, locals := 2138 } : Room) (cP (dC, dI) cy [.ref (ad 0)] (zzR ad cy (ad 3) (ad 10) iR iT wT tx iB lB aB iC aC) sz) (cQv (dC, dI) cy (zzR ad cy (ad 3) (ad 10) q.1 q.2.1 q.2.2.1 tx q.2.2.2.1 q.2.2.2.2.1 q.2.2.2.2.2.1 q.2.2.2.2.2.2.1 q.2.2.2.2.2.2.2) (va_A (zzR ad cy (ad 3) (ad 10) iR iT wT tx iB lB aB iC aC) sz)) 0 0 (va_A (zzR ad cy (ad 3) (ad 10) iR iT wT tx iB lB aB iC aC) sz) := by
  refine Met.ofW (cc := cX4_takeRule) (maxL := 4) (ret := none) (by decide) rfl ?_
  intro p e s m args below meth c s₁ B hml hv
  obtain ⟨hav, hsz, hP, hK, hD0, hN⟩ := hv
  have hx := B.exec
  have hb := B.bytes
  have hr := B.returns
  have hts := atoms_spec (ws := wsX4_takeRule) B.pre
  have hown : s.vm.findClass RX4 = some m.cls := findClass_of_methodNamed B.named
  have hlocks := B.notSynchronized
  subst hsz
  have hD := hD0.self (sz := s.heap.size)
  generalize hAe : va_A (zzR ad cy (ad 3) (ad 10) iR iT wT tx iB lB aB iC aC) s.heap.size = A at hD ⊢
  have hA : ∀ q : Nat, s.heap.size ≤ q → A q := fun q h => by rw [← hAe]; exact Or.inr h
  have hS : va_S A s.heap s.heap [] := va_S.rf
  generalize hWQ : (zzR ad cy (ad 3) (ad 10) q.1 q.2.1 q.2.2.1 tx q.2.2.2.1 q.2.2.2.2.1 q.2.2.2.2.2.1 q.2.2.2.2.2.2.1 q.2.2.2.2.2.2.2) = WQ
  generalize hQQ : MQ below (cQv (dC, dI) cy WQ A) args s 0 0 A = QQ
  have hl := lv_entry ([.ref (ad 0)] : List Value) (n := 4) (Nat.le_of_ble_eq_true rfl)
  have hfr := lg_entry_eq m ([.ref (ad 0)] : List Value) 4
  rw [← hav] at hfr
  rw [hfr]
  clear hfr hav
  generalize (lg_sl ([.ref (ad 0)] : List Value) ++ List.replicate (4 - (lg_sl ([.ref (ad 0)] : List Value)).length) Slot.unset).toArray = ls at hl ⊢
  have hl : lv_has ls 4 [(0, .ref (ad 0))] := hl
  have kf20 := hts _ (List.mem_cons_of_mem _ m_fl_X4_20)
  have ki4 := (fun w h => List.mem_cons_of_mem _ (i_X4 w h) : ∀ w ∈ u_ws RX4 TX4 5, w ∈ wsX4_takeRule)
  have kf24 := hts _ (List.mem_cons_of_mem _ m_fl_X4_24)
  have kf48 := hts _ (List.mem_cons_of_mem _ m_fl_X4_48)
  have ki5 := (fun w h => List.mem_cons_of_mem _ (i_X5 w h) : ∀ w ∈ u_ws RX5 TX5 6, w ∈ wsX4_takeRule)
  have kc100 := hts _ (List.mem_cons_of_mem _ m_kl_X4_100)
  have kf94 := hts _ (List.mem_cons_of_mem _ m_fl_X4_94)
  have ki0 := (fun w h => List.mem_cons_of_mem _ (i_X0 w h) : ∀ w ∈ u_ws RX0 TX0 15, w ∈ wsX4_takeRule)
  have kc102 := hts _ (List.mem_cons_of_mem _ m_kl_X4_102)
  refine (?_ : ∀ (H : Heap) (locs : List Loc), va_P (dC, dI) vwCl (zzR ad cy (ad 3) (ad 10) iR iT wT tx iB lB aB iC aC) H → va_D A (zzR ad cy (ad 3) (ad 10) iR iT wT tx iB lB aB iC aC) → va_S A s.heap H locs → W p l e ({ frames := 89, cells := 0, slots := 0, locals := 2138 } : Room) s m args below meth c H locs 0 0 QQ (F0 m 0 ls [])) s.heap [] hP hD hS
  clear hP hD hS
  have B100 : ∀ (v1 : Int32) (s0 : Int32) (x_iR : Nat → Int32) (x_iT : Nat → Int32) (x_wT : Int64) (x_iB : Nat → Int32) (x_lB : Nat → Nat → Int64) (x_iC : Nat → Int32) (x_aC : Nat → Nat → Int32) (H : Heap) (locs : List Loc) (ls : Array Slot), f_R_takeRule_100 N iR iT wT tx iB lB aB iC aC v1 s0 x_iR x_iT x_wT x_iB x_lB x_iC x_aC = some q → va_P (dC, dI) vwCl (zzR ad cy (ad 3) (ad 10) x_iR x_iT x_wT tx x_iB x_lB aB x_iC x_aC) H → va_D A (zzR ad cy (ad 3) (ad 10) x_iR x_iT x_wT tx x_iB x_lB aB x_iC x_aC) → va_S A s.heap H locs → lv_has ls 4 [(0, .ref (ad 0)), (1, .int v1)] → W p l e ({ frames := 89, cells := 0, slots := 0, locals := 2138 } : Room) s m args below meth c H locs 0 0 QQ (F0 m 100 ls [.int s0]) := by
    intro v1 s0 x_iR x_iT x_wT x_iB x_lB x_iC x_aC H locs ls h hP hD hS hl
    unfold f_R_takeRule_100 at h
    refine lv_istore_n (lv' := [(2, .int s0), (0, .ref (ad 0)), (1, .int v1)]) hx hb dX4_takeRule_100 rfl hl (by decide) rfl (fun ls hl => ?_)
    refine lv_aload_n hx hb dX4_takeRule_101 rfl (lv_at hl 1 rfl) ?_
    refine va_get (D := (dC, dI)) (ci := 4) (v := .ref (ad 1)) (C := RX4) (T := TX4) (N := 5) hx hb hts ki4 hown hK hP 0 rfl rfl 0 (by decide) kf20 (fun _ h9 => h9) rfl dX4_takeRule_102 ?_
    obtain ⟨q105, e105, h⟩ := g_b h
    refine callVv (cc := cX4_takeRule) (ws' := zzR ad cy (ad 3) (ad 10) x_iR (us x_iT [(2, q105.1), (3, q105.2.1), (4, q105.2.2.1)]) q105.2.2.2 tx x_iB x_lB aB x_iC x_aC) (As := []) (rest := []) ⟨hx, hb, hml, hown, hts⟩ (c_T_step l dC dI cy (fun i => ad (i + 1)) H.size N x_iT x_wT tx q105 e105) (cwV 0 hts (goodV m_ml_X4_87 m_im_X5_step m_se_X5_step m_in_X5 m_cd_X5_step) rfl rfl rfl (by decide +kernel) ⟨Nat.le_of_ble_eq_true rfl, Nat.le_of_ble_eq_true rfl⟩) hN hK hP hD hS hA [1, 2] [none, some 0, some 1, none, none, none, none, none, none, none, none, none, none, none, none, none, none, none, none] rfl rfl rfl rfl rfl rfl 1 rfl rfl rfl hl.1 rfl (Nat.le_of_ble_eq_true rfl) dX4_takeRule_105 ⟨Nat.zero_le _, Nat.zero_le _⟩ (fun H locs hP hD hS => ?_)
    refine lv_aload_n hx hb dX4_takeRule_108 rfl (lv_at hl 1 rfl) ?_
    refine lv_iconst (v := 0) hx hb dX4_takeRule_109 (by decide) ?_
    obtain ⟨q110, e110, h⟩ := g_b h
    refine callVis (cc := cX4_takeRule) (w1 := zzR ad cy (ad 3) (ad 10) q110.2.1 q110.2.2.1 q110.2.2.2.1 tx q110.2.2.2.2.1 q110.2.2.2.2.2.1 aB q110.2.2.2.2.2.2.1 q110.2.2.2.2.2.2.2) (As := [.int ((0 : Int32))]) (rest := []) ⟨hx, hb, hml, hown, hts⟩ (c_R_takeConcept l dC dI cy ad H.size N 84 2016 (f_R_takeOne N 14) (fun sz a1 iR iT wT tx iB lB aB iC aC q h => c_R_takeOne l dC dI cy ad sz N 14 a1 iR iT wT tx iB lB aB iC aC q h) ((0 : Int32)) x_iR ((us x_iT [(2, q105.1), (3, q105.2.1), (4, q105.2.2.1)])) q105.2.2.2 tx x_iB x_lB aB x_iC x_aC q110 e110) (cwV 1 hts (goodV m_ml_X4_97 m_im_X4_takeConcept m_se_X4_takeConcept m_in_X4 m_cd_X4_takeConcept) rfl rfl rfl (by decide +kernel) ⟨Nat.le_of_ble_eq_true rfl, Nat.le_of_ble_eq_true rfl⟩) hN hK hP hD hS hA rfl 0 rfl rfl rfl hl.1 rfl (Nat.le_of_ble_eq_true rfl) dX4_takeRule_110 ⟨Nat.zero_le _, Nat.zero_le _⟩ (fun H locs hP hD hS => ?_)
    refine lv_istore_n (lv' := [(3, .int q110.1), (2, .int s0), (0, .ref (ad 0)), (1, .int v1)]) hx hb dX4_takeRule_113 rfl hl (by decide) rfl (fun ls hl => ?_)
    refine lv_iload_n hx hb dX4_takeRule_114 rfl (lv_at hl 0 rfl) ?_
    refine lv_iconst (v := (-1)) hx hb dX4_takeRule_115 (by decide) ?_
    refine lv_icmp_eq (tgt := 136) hx hb dX4_takeRule_116 (by decide) (fun cz => ?_) (fun cz => ?_)
    · have h := g_t h cz
      have h' := Option.some.inj h
      rw [← hQQ]
      exact W.vret hx hb hr (fun t ht hW => ⟨⟨(), rfl, trivial, by rw [← hWQ, ← h', ht]; exact hP, va_K.moved hW.alike hK⟩, hS.F ht⟩) hS.2.2 dX4_takeRule_136
    · have h := g_f h cz
      refine lv_aload_n hx hb dX4_takeRule_119 rfl (lv_at hl 2 rfl) ?_
      obtain ⟨q120, e120, h⟩ := g_b h
      refine callVis (cc := cX4_takeRule) (w1 := zzR ad cy (ad 3) (ad 10) (us q110.2.1 [(3, q120.2.1), (4, q120.2.2.1)]) (us q110.2.2.1 [(2, q120.2.2.2.1), (3, q120.2.2.2.2.1), (4, q120.2.2.2.2.2.1)]) q120.2.2.2.2.2.2 tx q110.2.2.2.2.1 q110.2.2.2.2.2.1 aB q110.2.2.2.2.2.2.1 q110.2.2.2.2.2.2.2) (As := []) (rest := []) ⟨hx, hb, hml, hown, hts⟩ (c_R_takeEnd l dC dI cy ad H.size N q110.2.1 q110.2.2.1 q110.2.2.2.1 tx q110.2.2.2.2.1 q110.2.2.2.2.2.1 aB q110.2.2.2.2.2.2.1 q110.2.2.2.2.2.2.2 q120 e120) (cwV 0 hts (goodV m_ml_X4_104 m_im_X4_takeEnd m_se_X4_takeEnd m_in_X4 m_cd_X4_takeEnd) rfl rfl rfl (by decide +kernel) ⟨Nat.le_of_ble_eq_true rfl, Nat.le_of_ble_eq_true rfl⟩) hN hK hP hD hS hA rfl 0 rfl rfl rfl hl.1 rfl (Nat.le_of_ble_eq_true rfl) dX4_takeRule_120 ⟨Nat.zero_le _, Nat.zero_le _⟩ (fun H locs hP hD hS => ?_)
      refine lv_if_eq (tgt := 136) hx hb dX4_takeRule_123 (by decide) (fun cz => ?_) (fun cz => ?_)
      · have h := g_t h cz
        have h' := Option.some.inj h
        rw [← hQQ]
        exact W.vret hx hb hr (fun t ht hW => ⟨⟨(), rfl, trivial, by rw [← hWQ, ← h', ht]; exact hP, va_K.moved hW.alike hK⟩, hS.F ht⟩) hS.2.2 dX4_takeRule_136
      · have h := g_f h cz
        refine lv_aload_n hx hb dX4_takeRule_126 rfl (lv_at hl 2 rfl) ?_
        refine va_get (D := (dC, dI)) (ci := 4) (v := .ref (ad 3)) (C := RX4) (T := TX4) (N := 5) hx hb hts ki4 hown hK hP 0 rfl rfl 1 (by decide) kf24 (fun _ h9 => h9) rfl dX4_takeRule_127 ?_
        refine lv_iload_n hx hb dX4_takeRule_130 rfl (lv_at hl 1 rfl) ?_
        refine lv_iload_n hx hb dX4_takeRule_131 rfl (lv_at hl 3 rfl) ?_
        refine lv_iload_n hx hb dX4_takeRule_132 rfl (lv_at hl 0 rfl) ?_
        obtain ⟨q133, e133, h⟩ := g_b h
        refine callVv (cc := cX4_takeRule) (ws' := zzR ad cy (ad 3) (ad 10) (us q110.2.1 [(3, q120.2.1), (4, q120.2.2.1)]) (us q110.2.2.1 [(2, q120.2.2.2.1), (3, q120.2.2.2.2.1), (4, q120.2.2.2.2.2.1)]) q120.2.2.2.2.2.2 tx (us q110.2.2.2.2.1 [(7, q133.1), (9, q133.2.1)]) q110.2.2.2.2.2.1 (us aB [(6, q133.2.2.1), (8, q133.2.2.2)]) q110.2.2.2.2.2.2.1 q110.2.2.2.2.2.2.2) (As := [.int s0, .int v1, .int q110.1]) (rest := []) ⟨hx, hb, hml, hown, hts⟩ (c_B_addRule l dC dI cy (fun i => ad (i + 3)) H.size s0 v1 q110.1 q110.2.2.2.2.1 q110.2.2.2.2.2.1 aB q110.2.2.2.2.2.2.1 q110.2.2.2.2.2.2.2 q133 e133) (cwV 3 hts (goodV m_ml_X4_107 m_im_X0_addRule m_se_X0_addRule m_in_X0 m_cd_X0_addRule) rfl rfl rfl (by decide +kernel) ⟨Nat.le_of_ble_eq_true rfl, Nat.le_of_ble_eq_true rfl⟩) hN hK hP hD hS hA [3, 4, 5, 6, 7, 8, 9, 10, 11, 12, 13, 14, 15, 16, 17, 18] [none, none, none, some 0, some 1, some 2, some 3, some 4, some 5, some 6, some 7, some 8, some 9, some 10, some 11, some 12, some 13, some 14, some 15] rfl rfl rfl rfl rfl rfl 3 rfl rfl rfl hl.1 rfl (Nat.le_of_ble_eq_true rfl) dX4_takeRule_133 ⟨Nat.zero_le _, Nat.zero_le _⟩ (fun H locs hP hD hS => ?_)
        have h' := Option.some.inj h
        rw [← hQQ]
        exact W.vret hx hb hr (fun t ht hW => ⟨⟨(), rfl, trivial, by rw [← hWQ, ← h', ht]; exact hP, va_K.moved hW.alike hK⟩, hS.F ht⟩) hS.2.2 dX4_takeRule_136
  have B81 : ∀ (v1 : Int32) (x_iR : Nat → Int32) (x_iT : Nat → Int32) (x_wT : Int64) (x_iB : Nat → Int32) (x_lB : Nat → Nat → Int64) (x_iC : Nat → Int32) (x_aC : Nat → Nat → Int32) (H : Heap) (locs : List Loc) (ls : Array Slot), f_R_takeRule_81 N iR iT wT tx iB lB aB iC aC v1 x_iR x_iT x_wT x_iB x_lB x_iC x_aC = some q → va_P (dC, dI) vwCl (zzR ad cy (ad 3) (ad 10) x_iR x_iT x_wT tx x_iB x_lB aB x_iC x_aC) H → va_D A (zzR ad cy (ad 3) (ad 10) x_iR x_iT x_wT tx x_iB x_lB aB x_iC x_aC) → va_S A s.heap H locs → lv_has ls 4 [(0, .ref (ad 0)), (1, .int v1)] → W p l e ({ frames := 89, cells := 0, slots := 0, locals := 2138 } : Room) s m args below meth c H locs 0 0 QQ (F0 m 81 ls []) := by
    intro v1 x_iR x_iT x_wT x_iB x_lB x_iC x_aC H locs ls h hP hD hS hl
    unfold f_R_takeRule_81 at h
    refine lv_aload_n hx hb dX4_takeRule_81 rfl (lv_at hl 0 rfl) ?_
    refine va_get (D := (dC, dI)) (ci := 4) (v := .ref (ad 1)) (C := RX4) (T := TX4) (N := 5) hx hb hts ki4 hown hK hP 0 rfl rfl 0 (by decide) kf20 (fun _ h9 => h9) rfl dX4_takeRule_82 ?_
    refine va_get (D := (dC, dI)) (ci := 5) (v := .long x_wT) (C := RX5) (T := TX5) (N := 6) hx hb hts ki5 hown hK hP 1 rfl rfl 5 (by decide) kf48 (fun _ h9 => h9) rfl dX4_takeRule_85 ?_
    refine lv_ldc2 (v := 60) hx hb hown kc100 dX4_takeRule_88 ?_
    refine W.lcmp hx hb dX4_takeRule_91 ?_
    refine lv_if_ne (tgt := 99) hx hb dX4_takeRule_92 (by decide) (fun cz => ?_) (fun cz => ?_)
    · have h := g_f h (fun z => cz (lg_cmp0.mpr z))
      refine lv_iconst (v := 1) hx hb dX4_takeRule_99 (by decide) ?_
      exact B100 v1 ((1 : Int32)) x_iR x_iT x_wT x_iB x_lB x_iC x_aC H locs ls h hP hD hS (lv_sub hl [0, 1] rfl)
    · have h := g_t h (lg_cmp0.mp cz)
      refine lv_iconst (v := 0) hx hb dX4_takeRule_95 (by decide) ?_
      refine lv_goto (tgt := 100) hx hb dX4_takeRule_96 (by decide) ?_
      exact B100 v1 ((0 : Int32)) x_iR x_iT x_wT x_iB x_lB x_iC x_aC H locs ls h hP hD hS (lv_sub hl [0, 1] rfl)
  intro H locs hP hD hS
  unfold f_R_takeRule at h
  refine lv_aload_n hx hb dX4_takeRule_0 rfl (lv_at hl 0 rfl) ?_
  refine va_get (D := (dC, dI)) (ci := 4) (v := .ref (ad 1)) (C := RX4) (T := TX4) (N := 5) hx hb hts ki4 hown hK hP 0 rfl rfl 0 (by decide) kf20 (fun _ h9 => h9) rfl dX4_takeRule_1 ?_
  obtain ⟨q4, e4, h⟩ := g_b h
  refine callVi (cc := cX4_takeRule) (ws' := zzR ad cy (ad 3) (ad 10) iR iT wT tx iB lB aB iC aC) (As := []) (rest := []) ⟨hx, hb, hml, hown, hts⟩ (c_T_beginsConcept l dC dI cy (fun i => ad (i + 1)) H.size iT wT tx q4 e4) (cwV 0 hts (goodV m_ml_X4_90 m_im_X5_beginsConcept m_se_X5_beginsConcept m_in_X5 m_cd_X5_beginsConcept) rfl rfl rfl (by decide +kernel) ⟨Nat.le_of_ble_eq_true rfl, Nat.le_of_ble_eq_true rfl⟩) hN hK hP hD hS hA [1, 2] [none, some 0, some 1, none, none, none, none, none, none, none, none, none, none, none, none, none, none, none, none] rfl rfl rfl rfl rfl rfl 1 rfl rfl rfl hl.1 rfl (Nat.le_of_ble_eq_true rfl) dX4_takeRule_4 ⟨Nat.zero_le _, Nat.zero_le _⟩ (fun H locs hP hD hS => ?_)
  refine lv_if_ne (tgt := 16) hx hb dX4_takeRule_7 (by decide) (fun cz => ?_) (fun cz => ?_)
  · have h := g_f h cz
    refine lv_aload_n hx hb dX4_takeRule_16 rfl (lv_at hl 0 rfl) ?_
    refine va_get (D := (dC, dI)) (ci := 4) (v := .ref (ad 3)) (C := RX4) (T := TX4) (N := 5) hx hb hts ki4 hown hK hP 0 rfl rfl 1 (by decide) kf24 (fun _ h9 => h9) rfl dX4_takeRule_17 ?_
    refine va_get (D := (dC, dI)) (ci := 0) (v := .int ((iB 9))) (C := RX0) (T := TX0) (N := 15) hx hb hts ki0 hown hK hP 3 rfl rfl 9 (by decide) kf94 (fun _ h9 => h9) rfl dX4_takeRule_20 ?_
    refine lv_bipush (v := 12) hx hb dX4_takeRule_23 (by decide) ?_
    refine lv_icmp_lt (tgt := 35) hx hb dX4_takeRule_25 (by decide) (fun cz => ?_) (fun cz => ?_)
    · have h := g_t h cz
      refine lv_aload_n hx hb dX4_takeRule_35 rfl (lv_at hl 0 rfl) ?_
      refine lv_iconst (v := 0) hx hb dX4_takeRule_36 (by decide) ?_
      obtain ⟨q37, e37, h⟩ := g_b h
      refine callVis (cc := cX4_takeRule) (w1 := zzR ad cy (ad 3) (ad 10) q37.2.1 q37.2.2.1 q37.2.2.2.1 tx q37.2.2.2.2.1 q37.2.2.2.2.2.1 aB q37.2.2.2.2.2.2.1 q37.2.2.2.2.2.2.2) (As := [.int ((0 : Int32))]) (rest := []) ⟨hx, hb, hml, hown, hts⟩ (c_R_takeConcept l dC dI cy ad H.size N 84 2016 (f_R_takeOne N 14) (fun sz a1 iR iT wT tx iB lB aB iC aC q h => c_R_takeOne l dC dI cy ad sz N 14 a1 iR iT wT tx iB lB aB iC aC q h) ((0 : Int32)) iR iT wT tx iB lB aB iC aC q37 e37) (cwV 1 hts (goodV m_ml_X4_97 m_im_X4_takeConcept m_se_X4_takeConcept m_in_X4 m_cd_X4_takeConcept) rfl rfl rfl (by decide +kernel) ⟨Nat.le_of_ble_eq_true rfl, Nat.le_of_ble_eq_true rfl⟩) hN hK hP hD hS hA rfl 0 rfl rfl rfl hl.1 rfl (Nat.le_of_ble_eq_true rfl) dX4_takeRule_37 ⟨Nat.zero_le _, Nat.zero_le _⟩ (fun H locs hP hD hS => ?_)
      refine lv_istore_n (lv' := [(1, .int q37.1), (0, .ref (ad 0))]) hx hb dX4_takeRule_40 rfl hl (by decide) rfl (fun ls hl => ?_)
      refine lv_iload_n hx hb dX4_takeRule_41 rfl (lv_at hl 0 rfl) ?_
      refine lv_iconst (v := (-1)) hx hb dX4_takeRule_42 (by decide) ?_
      refine lv_icmp_ne (tgt := 47) hx hb dX4_takeRule_43 (by decide) (fun cz => ?_) (fun cz => ?_)
      · have h := g_f h cz
        refine lv_aload_n hx hb dX4_takeRule_47 rfl (lv_at hl 1 rfl) ?_
        refine va_get (D := (dC, dI)) (ci := 4) (v := .ref (ad 1)) (C := RX4) (T := TX4) (N := 5) hx hb hts ki4 hown hK hP 0 rfl rfl 0 (by decide) kf20 (fun _ h9 => h9) rfl dX4_takeRule_48 ?_
        refine va_get (D := (dC, dI)) (ci := 5) (v := .long q37.2.2.2.1) (C := RX5) (T := TX5) (N := 6) hx hb hts ki5 hown hK hP 1 rfl rfl 5 (by decide) kf48 (fun _ h9 => h9) rfl dX4_takeRule_51 ?_
        refine lv_ldc2 (v := 60) hx hb hown kc100 dX4_takeRule_54 ?_
        refine W.lcmp hx hb dX4_takeRule_57 ?_
        refine lv_if_eq (tgt := 81) hx hb dX4_takeRule_58 (by decide) (fun cz => ?_) (fun cz => ?_)
        · have h := g_t h (lg_cmp0.mp cz)
          exact B81 q37.1 q37.2.1 q37.2.2.1 q37.2.2.2.1 q37.2.2.2.2.1 q37.2.2.2.2.2.1 q37.2.2.2.2.2.2.1 q37.2.2.2.2.2.2.2 H locs ls h hP hD hS (lv_sub hl [1, 0] rfl)
        · have h := g_f h (fun z => cz (lg_cmp0.mpr z))
          refine lv_aload_n hx hb dX4_takeRule_61 rfl (lv_at hl 1 rfl) ?_
          refine va_get (D := (dC, dI)) (ci := 4) (v := .ref (ad 1)) (C := RX4) (T := TX4) (N := 5) hx hb hts ki4 hown hK hP 0 rfl rfl 0 (by decide) kf20 (fun _ h9 => h9) rfl dX4_takeRule_62 ?_
          refine va_get (D := (dC, dI)) (ci := 5) (v := .long q37.2.2.2.1) (C := RX5) (T := TX5) (N := 6) hx hb hts ki5 hown hK hP 1 rfl rfl 5 (by decide) kf48 (fun _ h9 => h9) rfl dX4_takeRule_65 ?_
          refine lv_ldc2 (v := 61) hx hb hown kc102 dX4_takeRule_68 ?_
          refine W.lcmp hx hb dX4_takeRule_71 ?_
          refine lv_if_eq (tgt := 81) hx hb dX4_takeRule_72 (by decide) (fun cz => ?_) (fun cz => ?_)
          · have h := g_t h (lg_cmp0.mp cz)
            exact B81 q37.1 q37.2.1 q37.2.2.1 q37.2.2.2.1 q37.2.2.2.2.1 q37.2.2.2.2.2.1 q37.2.2.2.2.2.2.1 q37.2.2.2.2.2.2.2 H locs ls h hP hD hS (lv_sub hl [1, 0] rfl)
          · have h := g_f h (fun z => cz (lg_cmp0.mpr z))
            refine lv_aload_n hx hb dX4_takeRule_75 rfl (lv_at hl 1 rfl) ?_
            obtain ⟨q76, e76, h⟩ := g_b h
            refine callVis (cc := cX4_takeRule) (w1 := zzR ad cy (ad 3) (ad 10) (us q37.2.1 [(3, q76.2.1), (4, q76.2.2)]) q37.2.2.1 q37.2.2.2.1 tx q37.2.2.2.2.1 q37.2.2.2.2.2.1 aB q37.2.2.2.2.2.2.1 q37.2.2.2.2.2.2.2) (As := []) (rest := []) ⟨hx, hb, hml, hown, hts⟩ (c_R_misplaced l dC dI cy ad H.size q37.2.1 q37.2.2.1 q37.2.2.2.1 tx q37.2.2.2.2.1 q37.2.2.2.2.2.1 aB q37.2.2.2.2.2.2.1 q37.2.2.2.2.2.2.2 q76 e76) (cwV 0 hts (goodV m_ml_X4_83 m_im_X4_misplaced m_se_X4_misplaced m_in_X4 m_cd_X4_misplaced) rfl rfl rfl (by decide +kernel) ⟨Nat.le_of_ble_eq_true rfl, Nat.le_of_ble_eq_true rfl⟩) hN hK hP hD hS hA rfl 0 rfl rfl rfl hl.1 rfl (Nat.le_of_ble_eq_true rfl) dX4_takeRule_76 ⟨Nat.zero_le _, Nat.zero_le _⟩ (fun H locs hP hD hS => ?_)
            refine lv_pop hx hb dX4_takeRule_79 rfl ?_
            have h' := Option.some.inj h
            rw [← hQQ]
            exact W.vret hx hb hr (fun t ht hW => ⟨⟨(), rfl, trivial, by rw [← hWQ, ← h', ht]; exact hP, va_K.moved hW.alike hK⟩, hS.F ht⟩) hS.2.2 dX4_takeRule_80
      · have h := g_t h cz
        have h' := Option.some.inj h
        rw [← hQQ]
        exact W.vret hx hb hr (fun t ht hW => ⟨⟨(), rfl, trivial, by rw [← hWQ, ← h', ht]; exact hP, va_K.moved hW.alike hK⟩, hS.F ht⟩) hS.2.2 dX4_takeRule_46
    · have h := g_f h cz
      refine lv_aload_n hx hb dX4_takeRule_28 rfl (lv_at hl 0 rfl) ?_
      refine lv_iconst (v := 3) hx hb dX4_takeRule_29 (by decide) ?_
      obtain ⟨q30, e30, h⟩ := g_b h
      refine callVis (cc := cX4_takeRule) (w1 := zzR ad cy (ad 3) (ad 10) (us iR [(3, q30.2.1), (4, q30.2.2)]) iT wT tx iB lB aB iC aC) (As := [.int ((3 : Int32))]) (rest := []) ⟨hx, hb, hml, hown, hts⟩ (c_R_failHere l dC dI cy ad H.size ((3 : Int32)) iR iT wT tx iB lB aB iC aC q30 e30) (cwV 1 hts (goodV m_ml_X4_77 m_im_X4_failHere m_se_X4_failHere m_in_X4 m_cd_X4_failHere) rfl rfl rfl (by decide +kernel) ⟨Nat.le_of_ble_eq_true rfl, Nat.le_of_ble_eq_true rfl⟩) hN hK hP hD hS hA rfl 0 rfl rfl rfl hl.1 rfl (Nat.le_of_ble_eq_true rfl) dX4_takeRule_30 ⟨Nat.zero_le _, Nat.zero_le _⟩ (fun H locs hP hD hS => ?_)
      refine lv_pop hx hb dX4_takeRule_33 rfl ?_
      have h' := Option.some.inj h
      rw [← hQQ]
      exact W.vret hx hb hr (fun t ht hW => ⟨⟨(), rfl, trivial, by rw [← hWQ, ← h', ht]; exact hP, va_K.moved hW.alike hK⟩, hS.F ht⟩) hS.2.2 dX4_takeRule_34
  · have h := g_t h cz
    refine lv_aload_n hx hb dX4_takeRule_10 rfl (lv_at hl 0 rfl) ?_
    obtain ⟨q11, e11, h⟩ := g_b h
    refine callVis (cc := cX4_takeRule) (w1 := zzR ad cy (ad 3) (ad 10) (us iR [(3, q11.2.1), (4, q11.2.2)]) iT wT tx iB lB aB iC aC) (As := []) (rest := []) ⟨hx, hb, hml, hown, hts⟩ (c_R_misplaced l dC dI cy ad H.size iR iT wT tx iB lB aB iC aC q11 e11) (cwV 0 hts (goodV m_ml_X4_83 m_im_X4_misplaced m_se_X4_misplaced m_in_X4 m_cd_X4_misplaced) rfl rfl rfl (by decide +kernel) ⟨Nat.le_of_ble_eq_true rfl, Nat.le_of_ble_eq_true rfl⟩) hN hK hP hD hS hA rfl 0 rfl rfl rfl hl.1 rfl (Nat.le_of_ble_eq_true rfl) dX4_takeRule_11 ⟨Nat.zero_le _, Nat.zero_le _⟩ (fun H locs hP hD hS => ?_)
    refine lv_pop hx hb dX4_takeRule_14 rfl ?_
    have h' := Option.some.inj h
    rw [← hQQ]
    exact W.vret hx hb hr (fun t ht hW => ⟨⟨(), rfl, trivial, by rw [← hWQ, ← h', ht]; exact hP, va_K.moved hW.alike hK⟩, hS.F ht⟩) hS.2.2 dX4_takeRule_15
