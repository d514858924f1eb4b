def f_R_takeAll_8 (N : Nat) (one : Int32 → (Nat → Int32) → (Nat → Int32) → Int64 → (Nat → Int32) → (Nat → Int32) → (Nat → Nat → Int64) → (Nat → Nat → Int32) → (Nat → Int32) → (Nat → Nat → Int32) → Option (Int32 × (Nat → Int32) × (Nat → Int32) × Int64 × (Nat → Int32) × (Nat → Nat → Int64) × (Nat → Int32) × (Nat → Nat → Int32))) (iR : Nat → Int32) (iT : Nat → Int32) (wT : Int64) (tx : Nat → Int32) (iB : Nat → Int32) (lB : Nat → Nat → Int64) (aB : Nat → Nat → Int32) (iC : Nat → Int32) (aC : Nat → Nat → Int32) (v1 : Int32) : Nat → Int32 → Int32 → (Nat → Int32) → (Nat → Int32) → Int64 → (Nat → Int32) → (Nat → Nat → Int64) → (Nat → Int32) → (Nat → Nat → Int32) → Option (Int32 × (Nat → Int32) × (Nat → Int32) × Int64 × (Nat → Int32) × (Nat → Nat → Int64) × (Nat → Int32) × (Nat → Nat → Int32))
  | 0, _, _, _, _, _, _, _, _, _ => none
  | n + 1, v2, v3, x_iR, x_iT, x_wT, x_iB, x_lB, x_iC, x_aC => if (200 : Int32) < v3 then (some (v2, x_iR, x_iT, x_wT, x_iB, x_lB, x_iC, x_aC)) else (if v2 = (-1 : Int32) then (some (v2, x_iR, x_iT, x_wT, x_iB, x_lB, x_iC, x_aC)) else (if x_wT = (6385252 : Int64) then ((f_R_countConcept ((x_iR 3)) ((x_iR 4)) ((x_iT 3)) ((x_iB 1))).bind fun q35 => (if q35.1 = 0 then (some ((-1 : Int32), (us x_iR [(3, q35.2.1), (4, q35.2.2.1)]), x_iT, x_wT, (us x_iB [(1, q35.2.2.2)]), x_lB, x_iC, x_aC)) else ((f_T_step N ((x_iT 1)) ((x_iT 2)) ((x_iT 3)) ((x_iT 4)) x_wT tx).bind fun q47 => ((one v1 ((us x_iR [(3, q35.2.1), (4, q35.2.2.1)])) ((us x_iT [(2, q47.1), (3, q47.2.1), (4, q47.2.2.1)])) q47.2.2.2 tx ((us x_iB [(1, q35.2.2.2)])) x_lB aB x_iC x_aC).bind fun q52 => (if q52.1 = (-1 : Int32) then (f_R_takeAll_8 N one iR iT wT tx iB lB aB iC aC v1 n ((-1 : Int32)) ((v3 + (1 : Int32))) q52.2.1 q52.2.2.1 q52.2.2.2.1 q52.2.2.2.2.1 q52.2.2.2.2.2.1 q52.2.2.2.2.2.2.1 q52.2.2.2.2.2.2.2) else ((f_C_make N ((6 : Int32)) v2 q52.1 ((q52.2.2.2.2.2.2.1 4)) ((q52.2.2.2.2.2.2.1 9)) ((q52.2.2.2.2.2.2.2 0)) ((q52.2.2.2.2.2.2.2 1)) ((q52.2.2.2.2.2.2.2 2)) ((q52.2.2.2.2.2.2.2 3)) ((q52.2.2.2.2.2.2.2 5)) ((q52.2.2.2.2.2.2.2 6)) ((q52.2.2.2.2.2.2.2 7)) ((q52.2.2.2.2.2.2.2 8))).bind fun q76 => (f_R_takeAll_8 N one iR iT wT tx iB lB aB iC aC v1 n q76.1 ((v3 + (1 : Int32))) q52.2.1 q52.2.2.1 q52.2.2.2.1 q52.2.2.2.2.1 q52.2.2.2.2.2.1 ((us q52.2.2.2.2.2.2.1 [(4, q76.2.1), (9, q76.2.2.1)])) ((us q52.2.2.2.2.2.2.2 [(0, q76.2.2.2.1), (1, q76.2.2.2.2.1), (2, q76.2.2.2.2.2.1), (3, q76.2.2.2.2.2.2.1), (5, q76.2.2.2.2.2.2.2.1), (6, q76.2.2.2.2.2.2.2.2.1), (7, q76.2.2.2.2.2.2.2.2.2.1), (8, q76.2.2.2.2.2.2.2.2.2.2)]))))))))) else (some (v2, x_iR, x_iT, x_wT, x_iB, x_lB, x_iC, x_aC))))
def f_R_takeAll (N : Nat) (one : Int32 → (Nat → Int32) → (Nat → Int32) → Int64 → (Nat → Int32) → (Nat → Int32) → (Nat → Nat → Int64) → (Nat → Nat → Int32) → (Nat → Int32) → (Nat → Nat → Int32) → Option (Int32 × (Nat → Int32) × (Nat → Int32) × Int64 × (Nat → Int32) × (Nat → Nat → Int64) × (Nat → Int32) × (Nat → Nat → Int32))) (a1 : Int32) (iR : Nat → Int32) (iT : Nat → Int32) (wT : Int64) (tx : Nat → Int32) (iB : Nat → Int32) (lB : Nat → Nat → Int64) (aB : Nat → Nat → Int32) (iC : Nat → Int32) (aC : Nat → Nat → Int32) : Option (Int32 × (Nat → Int32) × (Nat → Int32) × Int64 × (Nat → Int32) × (Nat → Nat → Int64) × (Nat → Int32) × (Nat → Nat → Int32)) := (one a1 iR iT wT tx iB lB aB iC aC).bind fun q2 => (f_R_takeAll_8 N one iR iT wT tx iB lB aB iC aC a1 N q2.1 ((0 : Int32)) q2.2.1 q2.2.2.1 q2.2.2.2.1 q2.2.2.2.2.1 q2.2.2.2.2.2.1 q2.2.2.2.2.2.2.1 q2.2.2.2.2.2.2.2)
set_option maxHeartbeats 8000000 in
set_option maxRecDepth 100000 in
theorem c_R_takeAll (l : Launch) (dC : Nat → ClassId) (dI : Nat → Nat → Nat) (cy : Nat → ClassId) (ad : Nat → Nat) (sz : Nat) (N : Nat) (fo lo : Nat) (one : Int32 → (Nat → Int32) → (Nat → Int32) → Int64 → (Nat → Int32) → (Nat → Int32) → (Nat → Nat → Int64) → (Nat → Nat → Int32) → (Nat → Int32) → (Nat → Nat → Int32) → Option (Int32 × (Nat → Int32) × (Nat → Int32) × Int64 × (Nat → Int32) × (Nat → Nat → Int64) × (Nat → Int32) × (Nat → Nat → Int32))) (hone : ∀ (sz : Nat) (a1 : Int32) (iR : Nat → Int32) (iT : Nat → Int32) (wT : Int64) (tx : Nat → Int32) (iB : Nat → Int32) (lB : Nat → Nat → Int64) (aB : Nat → Nat → Int32) (iC : Nat → Int32) (aC : Nat → Nat → Int32) (q : Int32 × (Nat → Int32) × (Nat → Int32) × Int64 × (Nat → Int32) × (Nat → Nat → Int64) × (Nat → Int32) × (Nat → Nat → Int32)), one a1 iR iT wT tx iB lB aB iC aC = some q → Met l yX4_takeOne wsX4_takeOne ({ frames := fo, cells := 0, slots := 0, locals := lo } : Room) (cP (dC, dI) cy [.ref (ad 0), .int a1] (zzR ad cy (ad 3) (ad 10) iR iT wT tx iB lB aB iC aC) sz) (cQi (dC, dI) cy q.1 (zzR ad cy (ad 3) (ad 10) q.2.1 q.2.2.1 q.2.2.2.1 tx q.2.2.2.2.1 q.2.2.2.2.2.1 aB q.2.2.2.2.2.2.1 q.2.2.2.2.2.2.2) (va_A (zzR ad cy (ad 3) (ad 10) iR iT wT tx iB lB aB iC aC) sz)) 0 0 (va_A (zzR ad cy (ad 3) (ad 10) iR iT wT tx iB lB aB iC aC) sz)) (a1 : Int32) (iR : Nat → Int32) (iT : Nat → Int32) (wT : Int64) (tx : Nat → Int32) (iB : Nat → Int32) (lB : Nat → Nat → Int64) (aB : Nat → Nat → Int32) (iC : Nat → Int32) (aC : Nat → Nat → Int32) (q : Int32 × (Nat → Int32) × (Nat → Int32) × Int64 × (Nat → Int32) × (Nat → Nat → Int64) × (Nat → Int32) × (Nat → Nat → Int32)) (h : f_R_takeAll N one a1 iR iT wT tx iB lB aB iC aC = some q) : Met l yX4_takeAll wsX4_takeAll ({ frames := fo + 3, cells := 0, slots := 0, locals := lo + 74 } : Room) (cP (dC, dI) cy [.ref (ad 0), .int a1] (zzR ad cy (ad 3) (ad 10) iR iT wT tx iB lB aB iC aC) sz) (cQi (dC, dI) cy q.1 (zzR ad cy (ad 3) (ad 10) q.2.1 q.2.2.1 q.2.2.2.1 tx q.2.2.2.2.1 q.2.2.2.2.2.1 aB q.2.2.2.2.2.2.1 q.2.2.2.2.2.2.2) (va_A (zzR ad cy (ad 3) (ad 10) iR iT wT tx iB lB aB iC aC) sz)) 0 0 (va_A (zzR ad cy (ad 3) (ad 10) iR iT wT tx iB lB aB iC aC) sz) := by
  refine Met.ofW (cc := cX4_takeAll) (maxL := 5) (ret := (some .int)) (by decide) rfl ?_
  intro p e s m args below meth c s₁ B hml hv
  obtain ⟨hav, hsz, hP, hK, hD0, hN⟩ := hv
  have hx := B.exec
  have hb := B.bytes
  have hr := B.returns
  have hts := atoms_spec (ws := wsX4_takeAll) B.pre
  have hown : s.vm.findClass RX4 = some m.cls := findClass_of_methodNamed B.named
  have hlocks := B.notSynchronized
  subst hsz
  have hD := hD0.self (sz := s.heap.size)
  generalize hAe : va_A (zzR ad cy (ad 3) (ad 10) iR iT wT tx iB lB aB iC aC) s.heap.size = A at hD ⊢
  have hA : ∀ q : Nat, s.heap.size ≤ q → A q := fun q h => by rw [← hAe]; exact Or.inr h
  have hS : va_S A s.heap s.heap [] := va_S.rf
  generalize hWQ : (zzR ad cy (ad 3) (ad 10) q.2.1 q.2.2.1 q.2.2.2.1 tx q.2.2.2.2.1 q.2.2.2.2.2.1 aB q.2.2.2.2.2.2.1 q.2.2.2.2.2.2.2) = WQ
  generalize hQQ : MQ below (cQi (dC, dI) cy q.1 WQ A) args s 0 0 A = QQ
  have hl := lv_entry ([.ref (ad 0), .int a1] : List Value) (n := 5) (Nat.le_of_ble_eq_true rfl)
  have hfr := lg_entry_eq m ([.ref (ad 0), .int a1] : List Value) 5
  rw [← hav] at hfr
  rw [hfr]
  clear hfr hav
  generalize (lg_sl ([.ref (ad 0), .int a1] : List Value) ++ List.replicate (5 - (lg_sl ([.ref (ad 0), .int a1] : List Value)).length) Slot.unset).toArray = ls at hl ⊢
  have hl : lv_has ls 5 [(0, .ref (ad 0)), (1, .int a1)] := hl
  have kf20 := hts _ (List.mem_cons_of_mem _ m_fl_X4_20)
  have ki4 := (fun w h => List.mem_cons_of_mem _ (i_X4 w h) : ∀ w ∈ u_ws RX4 TX4 5, w ∈ wsX4_takeAll)
  have kf48 := hts _ (List.mem_cons_of_mem _ m_fl_X4_48)
  have ki5 := (fun w h => List.mem_cons_of_mem _ (i_X5 w h) : ∀ w ∈ u_ws RX5 TX5 6, w ∈ wsX4_takeAll)
  have kc165 := hts _ (List.mem_cons_of_mem _ m_kl_X4_165)
  have kf34 := hts _ (List.mem_cons_of_mem _ m_fl_X4_34)
  refine (?_ : ∀ (H : Heap) (locs : List Loc), va_P (dC, dI) vwCl (zzR ad cy (ad 3) (ad 10) iR iT wT tx iB lB aB iC aC) H → va_D A (zzR ad cy (ad 3) (ad 10) iR iT wT tx iB lB aB iC aC) → va_S A s.heap H locs → W p l e ({ frames := fo + 3, cells := 0, slots := 0, locals := lo + 74 } : Room) s m args below meth c H locs 0 0 QQ (F0 m 0 ls [])) s.heap [] hP hD hS
  clear hP hD hS
  have B8 : ∀ (n : Nat) (v1 : Int32) (v2 : Int32) (v3 : Int32) (x_iR : Nat → Int32) (x_iT : Nat → Int32) (x_wT : Int64) (x_iB : Nat → Int32) (x_lB : Nat → Nat → Int64) (x_iC : Nat → Int32) (x_aC : Nat → Nat → Int32) (H : Heap) (locs : List Loc) (ls : Array Slot), f_R_takeAll_8 N one iR iT wT tx iB lB aB iC aC v1 n v2 v3 x_iR x_iT x_wT x_iB x_lB x_iC x_aC = some q → va_P (dC, dI) vwCl (zzR ad cy (ad 3) (ad 10) x_iR x_iT x_wT tx x_iB x_lB aB x_iC x_aC) H → va_D A (zzR ad cy (ad 3) (ad 10) x_iR x_iT x_wT tx x_iB x_lB aB x_iC x_aC) → va_S A s.heap H locs → lv_has ls 5 [(0, .ref (ad 0)), (1, .int v1), (2, .int v2), (3, .int v3)] → W p l e ({ frames := fo + 3, cells := 0, slots := 0, locals := lo + 74 } : Room) s m args below meth c H locs 0 0 QQ (F0 m 8 ls []) := by
    intro n
    induction n with
    | zero =>
      intro v1 v2 v3 x_iR x_iT x_wT x_iB x_lB x_iC x_aC H locs ls h hP hD hS hl
      rw [f_R_takeAll_8] at h
      cases h
    | succ n ih =>
      intro v1 v2 v3 x_iR x_iT x_wT x_iB x_lB x_iC x_aC H locs ls h hP hD hS hl
      rw [f_R_takeAll_8] at h
      refine lv_iload_n hx hb dX4_takeAll_8 rfl (lv_at hl 3 rfl) ?_
      refine lv_sipush (v := 200) hx hb dX4_takeAll_9 (by decide) ?_
      refine lv_icmp_gt (tgt := 86) hx hb dX4_takeAll_12 (by decide) (fun cz => ?_) (fun cz => ?_)
      · have h := g_t h cz
        refine lv_iload_n hx hb dX4_takeAll_86 rfl (lv_at hl 2 rfl) ?_
        have h' := Option.some.inj h
        rw [← hQQ]
        exact W.iret (v := v2) hx hb hr (fun t ht hW => ⟨⟨v2, (), rfl, by rw [← h'], by rw [← hWQ, ← h', ht]; exact hP, va_K.moved hW.alike hK⟩, hS.F ht⟩) hS.2.2 dX4_takeAll_87
      · have h := g_f h cz
        refine lv_iload_n hx hb dX4_takeAll_15 rfl (lv_at hl 2 rfl) ?_
        refine lv_iconst (v := (-1)) hx hb dX4_takeAll_16 (by decide) ?_
        refine lv_icmp_eq (tgt := 86) hx hb dX4_takeAll_17 (by decide) (fun cz => ?_) (fun cz => ?_)
        · have h := g_t h cz
          refine lv_iload_n hx hb dX4_takeAll_86 rfl (lv_at hl 2 rfl) ?_
          have h' := Option.some.inj h
          rw [← hQQ]
          exact W.iret (v := v2) hx hb hr (fun t ht hW => ⟨⟨v2, (), rfl, by rw [← h'], by rw [← hWQ, ← h', ht]; exact hP, va_K.moved hW.alike hK⟩, hS.F ht⟩) hS.2.2 dX4_takeAll_87
        · have h := g_f h cz
          refine lv_aload_n hx hb dX4_takeAll_20 rfl (lv_at hl 0 rfl) ?_
          refine va_get (D := (dC, dI)) (ci := 4) (v := .ref (ad 1)) (C := RX4) (T := TX4) (N := 5) hx hb hts ki4 hown hK hP 0 rfl rfl 0 (by decide) kf20 (fun _ h9 => h9) rfl dX4_takeAll_21 ?_
          refine va_get (D := (dC, dI)) (ci := 5) (v := .long x_wT) (C := RX5) (T := TX5) (N := 6) hx hb hts ki5 hown hK hP 1 rfl rfl 5 (by decide) kf48 (fun _ h9 => h9) rfl dX4_takeAll_24 ?_
          refine lv_ldc2 (v := 6385252) hx hb hown kc165 dX4_takeAll_27 ?_
          refine W.lcmp hx hb dX4_takeAll_30 ?_
          refine lv_if_ne (tgt := 86) hx hb dX4_takeAll_31 (by decide) (fun cz => ?_) (fun cz => ?_)
          · have h := g_f h (fun z => cz (lg_cmp0.mpr z))
            refine lv_iload_n hx hb dX4_takeAll_86 rfl (lv_at hl 2 rfl) ?_
            have h' := Option.some.inj h
            rw [← hQQ]
            exact W.iret (v := v2) hx hb hr (fun t ht hW => ⟨⟨v2, (), rfl, by rw [← h'], by rw [← hWQ, ← h', ht]; exact hP, va_K.moved hW.alike hK⟩, hS.F ht⟩) hS.2.2 dX4_takeAll_87
          · have h := g_t h (lg_cmp0.mp cz)
            refine lv_aload_n hx hb dX4_takeAll_34 rfl (lv_at hl 0 rfl) ?_
            obtain ⟨q35, e35, h⟩ := g_b h
            refine callVis (cc := cX4_takeAll) (w1 := zzR ad cy (ad 3) (ad 10) (us x_iR [(3, q35.2.1), (4, q35.2.2.1)]) x_iT x_wT tx (us x_iB [(1, q35.2.2.2)]) x_lB aB x_iC x_aC) (As := []) (rest := []) ⟨hx, hb, hml, hown, hts⟩ (c_R_countConcept l dC dI cy ad H.size x_iR x_iT x_wT tx x_iB x_lB aB x_iC x_aC q35 e35) (cwV 0 hts (goodV m_ml_X4_153 m_im_X4_countConcept m_se_X4_countConcept m_in_X4 m_cd_X4_countConcept) rfl rfl rfl (by decide +kernel) ⟨(show 2 + 1 ≤ fo + 3 by omega), (show 8 + (1 + 11) + (43) ≤ lo + 74 by omega)⟩) hN hK hP hD hS hA rfl 0 rfl rfl rfl hl.1 rfl (Nat.le_of_ble_eq_true rfl) dX4_takeAll_35 ⟨Nat.zero_le _, Nat.zero_le _⟩ (fun H locs hP hD hS => ?_)
            refine lv_if_ne (tgt := 43) hx hb dX4_takeAll_38 (by decide) (fun cz => ?_) (fun cz => ?_)
            · have h := g_f h cz
              refine lv_aload_n hx hb dX4_takeAll_43 rfl (lv_at hl 0 rfl) ?_
              refine va_get (D := (dC, dI)) (ci := 4) (v := .ref (ad 1)) (C := RX4) (T := TX4) (N := 5) hx hb hts ki4 hown hK hP 0 rfl rfl 0 (by decide) kf20 (fun _ h9 => h9) rfl dX4_takeAll_44 ?_
              obtain ⟨q47, e47, h⟩ := g_b h
              refine callVv (cc := cX4_takeAll) (ws' := zzR ad cy (ad 3) (ad 10) (us x_iR [(3, q35.2.1), (4, q35.2.2.1)]) (us x_iT [(2, q47.1), (3, q47.2.1), (4, q47.2.2.1)]) q47.2.2.2 tx (us x_iB [(1, q35.2.2.2)]) x_lB aB x_iC x_aC) (As := []) (rest := []) ⟨hx, hb, hml, hown, hts⟩ (c_T_step l dC dI cy (fun i => ad (i + 1)) H.size N x_iT x_wT tx q47 e47) (cwV 0 hts (goodV m_ml_X4_87 m_im_X5_step m_se_X5_step m_in_X5 m_cd_X5_step) rfl rfl rfl (by decide +kernel) ⟨(show 2 + 1 ≤ fo + 3 by omega), (show 8 + (1 + 11) + (42) ≤ lo + 74 by omega)⟩) hN hK hP hD hS hA [1, 2] [none, some 0, some 1, none, none, none, none, none, none, none, none, none, none, none, none, none, none, none, none] rfl rfl rfl rfl rfl rfl 1 rfl rfl rfl hl.1 rfl (Nat.le_of_ble_eq_true rfl) dX4_takeAll_47 ⟨Nat.zero_le _, Nat.zero_le _⟩ (fun H locs hP hD hS => ?_)
              refine lv_aload_n hx hb dX4_takeAll_50 rfl (lv_at hl 0 rfl) ?_
              refine lv_iload_n hx hb dX4_takeAll_51 rfl (lv_at hl 1 rfl) ?_
              obtain ⟨q52, e52, h⟩ := g_b h
              refine callVis (cc := cX4_takeAll) (w1 := zzR ad cy (ad 3) (ad 10) q52.2.1 q52.2.2.1 q52.2.2.2.1 tx q52.2.2.2.2.1 q52.2.2.2.2.2.1 aB q52.2.2.2.2.2.2.1 q52.2.2.2.2.2.2.2) (As := [.int v1]) (rest := []) ⟨hx, hb, hml, hown, hts⟩ (hone H.size v1 ((us x_iR [(3, q35.2.1), (4, q35.2.2.1)])) ((us x_iT [(2, q47.1), (3, q47.2.1), (4, q47.2.2.1)])) q47.2.2.2 tx ((us x_iB [(1, q35.2.2.2)])) x_lB aB x_iC x_aC q52 e52) (cwV 1 hts (goodV m_ml_X4_162 m_im_X4_takeOne m_se_X4_takeOne m_in_X4 m_cd_X4_takeOne) rfl rfl rfl (by decide +kernel) ⟨(show fo + 0 + 1 ≤ fo + 3 by omega), (show 8 + (6 + 11) + (lo + 0) ≤ lo + 74 by omega)⟩) hN hK hP hD hS hA rfl 0 rfl rfl rfl hl.1 rfl (Nat.le_of_ble_eq_true rfl) dX4_takeAll_52 ⟨Nat.zero_le _, Nat.zero_le _⟩ (fun H locs hP hD hS => ?_)
              refine lv_istore (lv' := [(4, .int q52.1), (0, .ref (ad 0)), (1, .int v1), (2, .int v2), (3, .int v3)]) hx hb dX4_takeAll_55 hl (by decide) rfl (fun ls hl => ?_)
              refine lv_iload hx hb dX4_takeAll_57 (lv_at hl 0 rfl) ?_
              refine lv_iconst (v := (-1)) hx hb dX4_takeAll_59 (by decide) ?_
              refine lv_icmp_ne (tgt := 67) hx hb dX4_takeAll_60 (by decide) (fun cz => ?_) (fun cz => ?_)
              · have h := g_f h cz
                refine lv_aload_n hx hb dX4_takeAll_67 rfl (lv_at hl 1 rfl) ?_
                refine va_get (D := (dC, dI)) (ci := 4) (v := .ref (ad 10)) (C := RX4) (T := TX4) (N := 5) hx hb hts ki4 hown hK hP 0 rfl rfl 2 (by decide) kf34 (fun _ h9 => h9) rfl dX4_takeAll_68 ?_
                refine lv_bipush (v := 6) hx hb dX4_takeAll_71 (by decide) ?_
                refine lv_iload_n hx hb dX4_takeAll_73 rfl (lv_at hl 3 rfl) ?_
                refine lv_iload hx hb dX4_takeAll_74 (lv_at hl 0 rfl) ?_
                obtain ⟨q76, e76, h⟩ := g_b h
                refine callVi (cc := cX4_takeAll) (ws' := zzR ad cy (ad 3) (ad 10) q52.2.1 q52.2.2.1 q52.2.2.2.1 tx q52.2.2.2.2.1 q52.2.2.2.2.2.1 aB (us q52.2.2.2.2.2.2.1 [(4, q76.2.1), (9, q76.2.2.1)]) (us q52.2.2.2.2.2.2.2 [(0, q76.2.2.2.1), (1, q76.2.2.2.2.1), (2, q76.2.2.2.2.2.1), (3, q76.2.2.2.2.2.2.1), (5, q76.2.2.2.2.2.2.2.1), (6, q76.2.2.2.2.2.2.2.2.1), (7, q76.2.2.2.2.2.2.2.2.2.1), (8, q76.2.2.2.2.2.2.2.2.2.2)])) (As := [.int ((6 : Int32)), .int v2, .int q52.1]) (rest := []) ⟨hx, hb, hml, hown, hts⟩ (c_C_make l dC dI cy (fun i => ad (i + 10)) H.size N ((6 : Int32)) v2 q52.1 q52.2.2.2.2.2.2.1 q52.2.2.2.2.2.2.2 q76 e76) (cwV 3 hts (goodV m_ml_X4_156 m_im_X1_make m_se_X1_make m_in_X1 m_cd_X1_make) rfl rfl rfl (by decide +kernel) ⟨(show 2 + 1 ≤ fo + 3 by omega), (show 8 + (7 + 11) + (48) ≤ lo + 74 by omega)⟩) hN hK hP hD hS hA [10, 11, 12, 13, 14, 15, 16, 17, 18] [none, none, none, none, none, none, none, none, none, none, some 0, some 1, some 2, some 3, some 4, some 5, some 6, some 7, some 8] rfl rfl rfl rfl rfl rfl 10 rfl rfl rfl hl.1 rfl (Nat.le_of_ble_eq_true rfl) dX4_takeAll_76 ⟨Nat.zero_le _, Nat.zero_le _⟩ (fun H locs hP hD hS => ?_)
                refine lv_istore_n (lv' := [(2, .int q76.1), (4, .int q52.1), (0, .ref (ad 0)), (1, .int v1), (3, .int v3)]) hx hb dX4_takeAll_79 rfl hl (by decide) rfl (fun ls hl => ?_)
                refine lv_iinc (v := (v3 + (1 : Int32))) (lv' := [(3, .int ((v3 + (1 : Int32)))), (2, .int q76.1), (4, .int q52.1), (0, .ref (ad 0)), (1, .int v1)]) hx hb dX4_takeAll_80 hl (k := 4) rfl rfl (by decide) rfl (fun ls hl => ?_)
                refine lv_goto (tgt := 8) hx hb dX4_takeAll_83 (by decide) ?_
                exact ih v1 q76.1 ((v3 + (1 : Int32))) q52.2.1 q52.2.2.1 q52.2.2.2.1 q52.2.2.2.2.1 q52.2.2.2.2.2.1 ((us q52.2.2.2.2.2.2.1 [(4, q76.2.1), (9, q76.2.2.1)])) ((us q52.2.2.2.2.2.2.2 [(0, q76.2.2.2.1), (1, q76.2.2.2.2.1), (2, q76.2.2.2.2.2.1), (3, q76.2.2.2.2.2.2.1), (5, q76.2.2.2.2.2.2.2.1), (6, q76.2.2.2.2.2.2.2.2.1), (7, q76.2.2.2.2.2.2.2.2.2.1), (8, q76.2.2.2.2.2.2.2.2.2.2)])) H locs ls h hP hD hS (lv_sub hl [3, 4, 1, 0] rfl)
              · have h := g_t h cz
                refine lv_iconst (v := (-1)) hx hb dX4_takeAll_63 (by decide) ?_
                refine lv_goto (tgt := 79) hx hb dX4_takeAll_64 (by decide) ?_
                refine lv_istore_n (lv' := [(2, .int ((-1 : Int32))), (4, .int q52.1), (0, .ref (ad 0)), (1, .int v1), (3, .int v3)]) hx hb dX4_takeAll_79 rfl hl (by decide) rfl (fun ls hl => ?_)
                refine lv_iinc (v := (v3 + (1 : Int32))) (lv' := [(3, .int ((v3 + (1 : Int32)))), (2, .int ((-1 : Int32))), (4, .int q52.1), (0, .ref (ad 0)), (1, .int v1)]) hx hb dX4_takeAll_80 hl (k := 4) rfl rfl (by decide) rfl (fun ls hl => ?_)
                refine lv_goto (tgt := 8) hx hb dX4_takeAll_83 (by decide) ?_
                exact ih v1 ((-1 : Int32)) ((v3 + (1 : Int32))) q52.2.1 q52.2.2.1 q52.2.2.2.1 q52.2.2.2.2.1 q52.2.2.2.2.2.1 q52.2.2.2.2.2.2.1 q52.2.2.2.2.2.2.2 H locs ls h hP hD hS (lv_sub hl [3, 4, 1, 0] rfl)
            · have h := g_t h cz
              refine lv_iconst (v := (-1)) hx hb dX4_takeAll_41 (by decide) ?_
              have h' := Option.some.inj h
              rw [← hQQ]
              exact W.iret (v := (-1 : Int32)) hx hb hr (fun t ht hW => ⟨⟨(-1 : Int32), (), rfl, by rw [← h'], by rw [← hWQ, ← h', ht]; exact hP, va_K.moved hW.alike hK⟩, hS.F ht⟩) hS.2.2 dX4_takeAll_42
  intro H locs hP hD hS
  unfold f_R_takeAll at h
  refine lv_aload_n hx hb dX4_takeAll_0 rfl (lv_at hl 0 rfl) ?_
  refine lv_iload_n hx hb dX4_takeAll_1 rfl (lv_at hl 1 rfl) ?_
  obtain ⟨q2, e2, h⟩ := g_b h
  refine callVis (cc := cX4_takeAll) (w1 := zzR ad cy (ad 3) (ad 10) q2.2.1 q2.2.2.1 q2.2.2.2.1 tx q2.2.2.2.2.1 q2.2.2.2.2.2.1 aB q2.2.2.2.2.2.2.1 q2.2.2.2.2.2.2.2) (As := [.int a1]) (rest := []) ⟨hx, hb, hml, hown, hts⟩ (hone H.size a1 iR iT wT tx iB lB aB iC aC q2 e2) (cwV 1 hts (goodV m_ml_X4_162 m_im_X4_takeOne m_se_X4_takeOne m_in_X4 m_cd_X4_takeOne) rfl rfl rfl (by decide +kernel) ⟨(show fo + 0 + 1 ≤ fo + 3 by omega), (show 8 + (6 + 11) + (lo + 0) ≤ lo + 74 by omega)⟩) hN hK hP hD hS hA rfl 0 rfl rfl rfl hl.1 rfl (Nat.le_of_ble_eq_true rfl) dX4_takeAll_2 ⟨Nat.zero_le _, Nat.zero_le _⟩ (fun H locs hP hD hS => ?_)
  refine lv_istore_n (lv' := [(2, .int q2.1), (0, .ref (ad 0)), (1, .int a1)]) hx hb dX4_takeAll_5 rfl hl (by decide) rfl (fun ls hl => ?_)
  refine lv_iconst (v := 0) hx hb dX4_takeAll_6 (by decide) ?_
  refine lv_istore_n (lv' := [(3, .int ((0 : Int32))), (2, .int q2.1), (0, .ref (ad 0)), (1, .int a1)]) hx hb dX4_takeAll_7 rfl hl (by decide) rfl (fun ls hl => ?_)
  exact B8 N a1 q2.1 ((0 : Int32)) q2.2.1 q2.2.2.1 q2.2.2.2.1 q2.2.2.2.2.1 q2.2.2.2.2.2.1 q2.2.2.2.2.2.2.1 q2.2.2.2.2.2.2.2 H locs ls h hP hD hS (lv_sub hl [2, 3, 1, 0] rfl)
