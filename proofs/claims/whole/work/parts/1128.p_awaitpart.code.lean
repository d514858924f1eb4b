def f_P_awaitPart_10 (iP4 : Int32) (aP3 : Nat → Int32) (v1 : Int32) (v2 : Int32) (x_iP4 : Int32) (x_aP3 : Nat → Int32) : Option (Int32 × (Nat → Int32)) := (f_P_await v1 x_iP4 x_aP3).bind fun q12 => (if v2 = 0 then (some (q12.1, q12.2)) else ((f_P_await ((-1 : Int32)) q12.1 q12.2).bind fun q21 => (some (q21.1, q21.2))))
def f_P_awaitPart (a1 : Int32) (a2 : Int32) (iP4 : Int32) (aP3 : Nat → Int32) : Option (Int32 × (Nat → Int32)) := if a2 = 0 then (f_P_awaitPart_10 iP4 aP3 a1 a2 iP4 aP3) else ((f_P_await ((-2 : Int32)) iP4 aP3).bind fun q7 => (f_P_awaitPart_10 iP4 aP3 a1 a2 q7.1 q7.2))
set_option maxHeartbeats 8000000 in
set_option maxRecDepth 100000 in
theorem c_P_awaitPart (l : Launch) (dC : Nat → ClassId) (dI : Nat → Nat → Nat) (cy : Nat → ClassId) (ad : Nat → Nat) (sz : Nat) (a1 : Int32) (a2 : Int32) (iP : Nat → Int32) (aP : Nat → Nat → Int32) (iB : Nat → Int32) (lB : Nat → Nat → Int64) (aB : Nat → Nat → Int32) (iC : Nat → Int32) (aC : Nat → Nat → Int32) (q : Int32 × (Nat → Int32)) (h : f_P_awaitPart a1 a2 (iP 4) (aP 3) = some q) : Met l yX3_awaitPart wsX3_awaitPart ({ frames := 1, cells := 0, slots := 0, locals := 21 } : Room) (cP (dC, dI) cy [.ref (ad 0), .int a1, .int a2] (zzP ad cy (ad 3) iP aP iB lB aB iC aC) sz) (cQv (dC, dI) cy (zzP ad cy (ad 3) (us iP [(4, q.1)]) (us aP [(3, q.2)]) iB lB aB iC aC) (va_A (zzP ad cy (ad 3) iP aP iB lB aB iC aC) sz)) 0 0 (va_A (zzP ad cy (ad 3) iP aP iB lB aB iC aC) sz) := by
  refine Met.ofW (cc := cX3_awaitPart) (maxL := 3) (ret := none) (by decide) rfl ?_
  intro p e s m args below meth c s₁ B hml hv
  obtain ⟨hav, hsz, hP, hK, hD0, hN⟩ := hv
  have hx := B.exec
  have hb := B.bytes
  have hr := B.returns
  have hts := atoms_spec (ws := wsX3_awaitPart) B.pre
  have hown : s.vm.findClass RX3 = some m.cls := findClass_of_methodNamed B.named
  have hlocks := B.notSynchronized
  subst hsz
  have hD := hD0.self (sz := s.heap.size)
  generalize hAe : va_A (zzP ad cy (ad 3) iP aP iB lB aB iC aC) s.heap.size = A at hD ⊢
  have hA : ∀ q : Nat, s.heap.size ≤ q → A q := fun q h => by rw [← hAe]; exact Or.inr h
  have hS : va_S A s.heap s.heap [] := va_S.rf
  generalize hWQ : (zzP ad cy (ad 3) (us iP [(4, q.1)]) (us aP [(3, q.2)]) iB lB aB iC aC) = WQ
  generalize hQQ : MQ below (cQv (dC, dI) cy WQ A) args s 0 0 A = QQ
  have hl := lv_entry ([.ref (ad 0), .int a1, .int a2] : List Value) (n := 3) (Nat.le_of_ble_eq_true rfl)
  have hfr := lg_entry_eq m ([.ref (ad 0), .int a1, .int a2] : List Value) 3
  rw [← hav] at hfr
  rw [hfr]
  clear hfr hav
  generalize (lg_sl ([.ref (ad 0), .int a1, .int a2] : List Value) ++ List.replicate (3 - (lg_sl ([.ref (ad 0), .int a1, .int a2] : List Value)).length) Slot.unset).toArray = ls at hl ⊢
  have hl : lv_has ls 3 [(0, .ref (ad 0)), (1, .int a1), (2, .int a2)] := hl
  refine (?_ : ∀ (H : Heap) (locs : List Loc), va_P (dC, dI) vwCl (zzP ad cy (ad 3) iP aP iB lB aB iC aC) H → va_D A (zzP ad cy (ad 3) iP aP iB lB aB iC aC) → va_S A s.heap H locs → W p l e ({ frames := 1, cells := 0, slots := 0, locals := 21 } : Room) s m args below meth c H locs 0 0 QQ (F0 m 0 ls [])) s.heap [] hP hD hS
  clear hP hD hS
  have B10 : ∀ (v1 : Int32) (v2 : Int32) (x_iP4 : Int32) (x_aP3 : Nat → Int32) (H : Heap) (locs : List Loc) (ls : Array Slot), f_P_awaitPart_10 (iP 4) (aP 3) v1 v2 x_iP4 x_aP3 = some q → va_P (dC, dI) vwCl (zzP ad cy (ad 3) (us iP [(4, x_iP4)]) (us aP [(3, x_aP3)]) iB lB aB iC aC) H → va_D A (zzP ad cy (ad 3) (us iP [(4, x_iP4)]) (us aP [(3, x_aP3)]) iB lB aB iC aC) → va_S A s.heap H locs → lv_has ls 3 [(0, .ref (ad 0)), (1, .int v1), (2, .int v2)] → W p l e ({ frames := 1, cells := 0, slots := 0, locals := 21 } : Room) s m args below meth c H locs 0 0 QQ (F0 m 10 ls []) := by
    intro v1 v2 x_iP4 x_aP3 H locs ls h hP hD hS hl
    unfold f_P_awaitPart_10 at h
    refine lv_aload_n hx hb dX3_awaitPart_10 rfl (lv_at hl 0 rfl) ?_
    refine lv_iload_n hx hb dX3_awaitPart_11 rfl (lv_at hl 1 rfl) ?_
    obtain ⟨q12, e12, h⟩ := g_b h
    refine callVvs (cc := cX3_awaitPart) (w1 := zzP ad cy (ad 3) (us iP [(4, q12.1)]) (us aP [(3, q12.2)]) iB lB aB iC aC) (As := [.int v1]) (rest := []) ⟨hx, hb, hml, hown, hts⟩ (c_P_await l dC dI cy ad H.size v1 ((us iP [(4, x_iP4)])) ((us aP [(3, x_aP3)])) iB lB aB iC aC q12 e12) (cwV 1 hts (goodV m_ml_X3_82 m_im_X3_await m_se_X3_await m_in_X3 m_cd_X3_await) rfl rfl rfl (by decide +kernel) ⟨Nat.le_of_ble_eq_true rfl, Nat.le_of_ble_eq_true rfl⟩) hN hK hP hD hS hA rfl 0 rfl rfl rfl hl.1 rfl (Nat.le_of_ble_eq_true rfl) dX3_awaitPart_12 ⟨Nat.zero_le _, Nat.zero_le _⟩ (fun H locs hP hD hS => ?_)
    refine lv_iload_n hx hb dX3_awaitPart_15 rfl (lv_at hl 2 rfl) ?_
    refine lv_if_eq (tgt := 24) hx hb dX3_awaitPart_16 (by decide) (fun cz => ?_) (fun cz => ?_)
    · have h := g_t h cz
      have h' := Option.some.inj h
      rw [← hQQ]
      exact W.vret hx hb hr (fun t ht hW => ⟨⟨(), rfl, trivial, by rw [← hWQ, ← h', ht]; exact hP, va_K.moved hW.alike hK⟩, hS.F ht⟩) hS.2.2 dX3_awaitPart_24
    · have h := g_f h cz
      refine lv_aload_n hx hb dX3_awaitPart_19 rfl (lv_at hl 0 rfl) ?_
      refine lv_iconst (v := (-1)) hx hb dX3_awaitPart_20 (by decide) ?_
      obtain ⟨q21, e21, h⟩ := g_b h
      refine callVvs (cc := cX3_awaitPart) (w1 := zzP ad cy (ad 3) (us iP [(4, q21.1)]) (us aP [(3, q21.2)]) iB lB aB iC aC) (As := [.int ((-1 : Int32))]) (rest := []) ⟨hx, hb, hml, hown, hts⟩ (c_P_await l dC dI cy ad H.size ((-1 : Int32)) ((us iP [(4, q12.1)])) ((us aP [(3, q12.2)])) iB lB aB iC aC q21 e21) (cwV 1 hts (goodV m_ml_X3_82 m_im_X3_await m_se_X3_await m_in_X3 m_cd_X3_await) rfl rfl rfl (by decide +kernel) ⟨Nat.le_of_ble_eq_true rfl, Nat.le_of_ble_eq_true rfl⟩) hN hK hP hD hS hA rfl 0 rfl rfl rfl hl.1 rfl (Nat.le_of_ble_eq_true rfl) dX3_awaitPart_21 ⟨Nat.zero_le _, Nat.zero_le _⟩ (fun H locs hP hD hS => ?_)
      have h' := Option.some.inj h
      rw [← hQQ]
      exact W.vret hx hb hr (fun t ht hW => ⟨⟨(), rfl, trivial, by rw [← hWQ, ← h', ht]; exact hP, va_K.moved hW.alike hK⟩, hS.F ht⟩) hS.2.2 dX3_awaitPart_24
  intro H locs hP hD hS
  unfold f_P_awaitPart at h
  refine lv_iload_n hx hb dX3_awaitPart_0 rfl (lv_at hl 2 rfl) ?_
  refine lv_if_eq (tgt := 10) hx hb dX3_awaitPart_1 (by decide) (fun cz => ?_) (fun cz => ?_)
  · have h := g_t h cz
    exact B10 a1 a2 (iP 4) (aP 3) H locs ls h hP hD hS (lv_sub hl [0, 1, 2] rfl)
  · have h := g_f h cz
    refine lv_aload_n hx hb dX3_awaitPart_4 rfl (lv_at hl 0 rfl) ?_
    refine lv_bipush (v := (-2)) hx hb dX3_awaitPart_5 (by decide) ?_
    obtain ⟨q7, e7, h⟩ := g_b h
    refine callVvs (cc := cX3_awaitPart) (w1 := zzP ad cy (ad 3) (us iP [(4, q7.1)]) (us aP [(3, q7.2)]) iB lB aB iC aC) (As := [.int ((-2 : Int32))]) (rest := []) ⟨hx, hb, hml, hown, hts⟩ (c_P_await l dC dI cy ad H.size ((-2 : Int32)) iP aP iB lB aB iC aC q7 e7) (cwV 1 hts (goodV m_ml_X3_82 m_im_X3_await m_se_X3_await m_in_X3 m_cd_X3_await) rfl rfl rfl (by decide +kernel) ⟨Nat.le_of_ble_eq_true rfl, Nat.le_of_ble_eq_true rfl⟩) hN hK hP hD hS hA rfl 0 rfl rfl rfl hl.1 rfl (Nat.le_of_ble_eq_true rfl) dX3_awaitPart_7 ⟨Nat.zero_le _, Nat.zero_le _⟩ (fun H locs hP hD hS => ?_)
    exact B10 a1 a2 q7.1 q7.2 H locs ls h hP hD hS (lv_sub hl [0, 1, 2] rfl)
