def f_W_build_29 (N : Nat) (iB13 : Int32) (iC9 : Int32) (aC5 : Nat → Int32) (lK3 : Nat → Int64) (lK4 : Nat → Int64) (lK9 : Nat → Int64) (aK5 : Nat → Int32) (aK6 : Nat → Int32) (iW1 : Int32) (iW4 : Int32) (aW0 : Nat → Int32) (aW2 : Nat → Int32) (aW3 : Nat → Int32)  : Nat → Int32 → Int32 → Int32 → (Nat → Int32) → (Nat → Int32) → (Nat → Int32) → Option (Int32 × Int32 × (Nat → Int32) × (Nat → Int32) × (Nat → Int32))
  | 0, _, _, _, _, _, _ => none
  | n + 1, v4, x_iW1, x_iW4, x_aW0, x_aW2, x_aW3 => if x_iW1 ≤ v4 then (some (x_iW1, x_iW4, x_aW0, x_aW2, x_aW3)) else (if (512 : Int32) ≤ v4 then (some (x_iW1, x_iW4, x_aW0, x_aW2, x_aW3)) else ((f_W_addEdges N v4 iB13 iC9 aC5 lK4 lK9 aK5 aK6 x_iW1 x_iW4 x_aW0 x_aW2 x_aW3).bind fun q50 => (f_W_build_29 N iB13 iC9 aC5 lK3 lK4 lK9 aK5 aK6 iW1 iW4 aW0 aW2 aW3 n ((v4 + (1 : Int32))) q50.1 q50.2.1 q50.2.2.1 q50.2.2.2.1 q50.2.2.2.2)))
def f_W_build (N : Nat) (a2 : Int32) (iB13 : Int32) (iC9 : Int32) (aC5 : Nat → Int32) (lK3 : Nat → Int64) (lK4 : Nat → Int64) (lK9 : Nat → Int64) (aK5 : Nat → Int32) (aK6 : Nat → Int32) (iW1 : Int32) (iW4 : Int32) (aW0 : Nat → Int32) (aW2 : Nat → Int32) (aW3 : Nat → Int32) : Option (Int32 × Int32 × (Nat → Int32) × (Nat → Int32) × (Nat → Int32)) := (f_W_clear N iW1 iW4 aW2).bind fun q1 => ((f_K_leastWhere_standing N a2 lK3 lK9).bind fun q10 => (if q10 = (-1 : Int32) then (some (q1.1, q1.2.1, aW0, q1.2.2, aW3)) else ((f_W_thingFor q10 q1.1 aW0 q1.2.2).bind fun q22 => (f_W_build_29 N iB13 iC9 aC5 lK3 lK4 lK9 aK5 aK6 iW1 iW4 aW0 aW2 aW3 N ((0 : Int32)) q22.2.1 q1.2.1 q22.2.2.1 q22.2.2.2 aW3))))
set_option maxHeartbeats 8000000 in
set_option maxRecDepth 100000 in
theorem c_W_build (l : Launch) (dC : Nat → ClassId) (dI : Nat → Nat → Nat) (cy : Nat → ClassId) (ad : Nat → Nat) (sz : Nat) (N : Nat) (a2 : Int32) (iW : Nat → Int32) (aW : Nat → Nat → Int32) (iK : Nat → Int32) (lK : Nat → Nat → Int64) (aK : Nat → Nat → Int32) (iB : Nat → Int32) (lB : Nat → Nat → Int64) (aB : Nat → Nat → Int32) (iC : Nat → Int32) (aC : Nat → Nat → Int32) (q : Int32 × Int32 × (Nat → Int32) × (Nat → Int32) × (Nat → Int32)) (h : f_W_build N a2 (iB 13) (iC 9) (aC 5) (lK 3) (lK 4) (lK 9) (aK 5) (aK 6) (iW 1) (iW 4) (aW 0) (aW 2) (aW 3) = some q) : Met l yX6_build wsX6_build ({ frames := 4, cells := 0, slots := 0, locals := 98 } : Room) (cP (dC, dI) cy [.ref (ad 0), .ref (ad 4), .int a2] (zzW ad cy (ad 15) (ad 22) iW aW iK lK aK iB lB aB iC aC) sz) (cQv (dC, dI) cy (zzW ad cy (ad 15) (ad 22) (us iW [(1, q.1), (4, q.2.1)]) (us aW [(0, q.2.2.1), (2, q.2.2.2.1), (3, q.2.2.2.2)]) iK lK aK iB lB aB iC aC) (va_A (zzW ad cy (ad 15) (ad 22) iW aW iK lK aK iB lB aB iC aC) sz)) 0 0 (va_A (zzW ad cy (ad 15) (ad 22) iW aW iK lK aK iB lB aB iC aC) sz) := by
  refine Met.ofW (cc := cX6_build) (maxL := 5) (ret := none) (by decide) rfl ?_
  intro p e s m args below meth c s₁ B hml hv
  obtain ⟨hav, hsz, hP, hK, hD0, hN⟩ := hv
  have hx := B.exec
  have hb := B.bytes
  have hr := B.returns
  have hts := atoms_spec (ws := wsX6_build) B.pre
  have hown : s.vm.findClass RX6 = some m.cls := findClass_of_methodNamed B.named
  have hlocks := B.notSynchronized
  subst hsz
  have hD := hD0.self (sz := s.heap.size)
  generalize hAe : va_A (zzW ad cy (ad 15) (ad 22) iW aW iK lK aK iB lB aB iC aC) s.heap.size = A at hD ⊢
  have hA : ∀ q : Nat, s.heap.size ≤ q → A q := fun q h => by rw [← hAe]; exact Or.inr h
  have hS : va_S A s.heap s.heap [] := va_S.rf
  generalize hWQ : (zzW ad cy (ad 15) (ad 22) (us iW [(1, q.1), (4, q.2.1)]) (us aW [(0, q.2.2.1), (2, q.2.2.2.1), (3, q.2.2.2.2)]) iK lK aK iB lB aB iC aC) = WQ
  generalize hQQ : MQ below (cQv (dC, dI) cy WQ A) args s 0 0 A = QQ
  have hl := lv_entry ([.ref (ad 0), .ref (ad 4), .int a2] : List Value) (n := 5) (Nat.le_of_ble_eq_true rfl)
  have hfr := lg_entry_eq m ([.ref (ad 0), .ref (ad 4), .int a2] : List Value) 5
  rw [← hav] at hfr
  rw [hfr]
  clear hfr hav
  generalize (lg_sl ([.ref (ad 0), .ref (ad 4), .int a2] : List Value) ++ List.replicate (5 - (lg_sl ([.ref (ad 0), .ref (ad 4), .int a2] : List Value)).length) Slot.unset).toArray = ls at hl ⊢
  have hl : lv_has ls 5 [(0, .ref (ad 0)), (1, .ref (ad 4)), (2, .int a2)] := hl
  have kf22 := hts _ (List.mem_cons_of_mem _ m_fl_X6_22)
  have ki6 := (fun w h => List.mem_cons_of_mem _ (i_X6 w h) : ∀ w ∈ u_ws RX6 TX6 5, w ∈ wsX6_build)
  have kf32 := hts _ (List.mem_cons_of_mem _ m_fl_X6_32)
  have ki2 := (fun w h => List.mem_cons_of_mem _ (i_X2 w h) : ∀ w ∈ u_ws RX2 TX2 15, w ∈ wsX6_build)
  refine (?_ : ∀ (H : Heap) (locs : List Loc), va_P (dC, dI) vwCl (zzW ad cy (ad 15) (ad 22) iW aW iK lK aK iB lB aB iC aC) H → va_D A (zzW ad cy (ad 15) (ad 22) iW aW iK lK aK iB lB aB iC aC) → va_S A s.heap H locs → W p l e ({ frames := 4, cells := 0, slots := 0, locals := 98 } : Room) s m args below meth c H locs 0 0 QQ (F0 m 0 ls [])) s.heap [] hP hD hS
  clear hP hD hS
  have B29 : ∀ (n : Nat) (v4 : Int32) (x_iW1 : Int32) (x_iW4 : Int32) (x_aW0 : Nat → Int32) (x_aW2 : Nat → Int32) (x_aW3 : Nat → Int32) (H : Heap) (locs : List Loc) (ls : Array Slot), f_W_build_29 N (iB 13) (iC 9) (aC 5) (lK 3) (lK 4) (lK 9) (aK 5) (aK 6) (iW 1) (iW 4) (aW 0) (aW 2) (aW 3) n v4 x_iW1 x_iW4 x_aW0 x_aW2 x_aW3 = some q → va_P (dC, dI) vwCl (zzW ad cy (ad 15) (ad 22) (us iW [(1, x_iW1), (4, x_iW4)]) (us aW [(0, x_aW0), (2, x_aW2), (3, x_aW3)]) iK lK aK iB lB aB iC aC) H → va_D A (zzW ad cy (ad 15) (ad 22) (us iW [(1, x_iW1), (4, x_iW4)]) (us aW [(0, x_aW0), (2, x_aW2), (3, x_aW3)]) iK lK aK iB lB aB iC aC) → va_S A s.heap H locs → lv_has ls 5 [(0, .ref (ad 0)), (1, .ref (ad 4)), (4, .int v4)] → W p l e ({ frames := 4, cells := 0, slots := 0, locals := 98 } : Room) s m args below meth c H locs 0 0 QQ (F0 m 29 ls []) := by
    intro n
    induction n with
    | zero =>
      intro v4 x_iW1 x_iW4 x_aW0 x_aW2 x_aW3 H locs ls h hP hD hS hl
      rw [f_W_build_29] at h
      cases h
    | succ n ih =>
      intro v4 x_iW1 x_iW4 x_aW0 x_aW2 x_aW3 H locs ls h hP hD hS hl
      rw [f_W_build_29] at h
      refine lv_iload hx hb dX6_build_29 (lv_at hl 2 rfl) ?_
      refine lv_aload_n hx hb dX6_build_31 rfl (lv_at hl 0 rfl) ?_
      refine va_get (D := (dC, dI)) (ci := 6) (v := .int x_iW1) (C := RX6) (T := TX6) (N := 5) hx hb hts ki6 hown hK hP 0 rfl rfl 1 (by decide) kf22 (fun _ h9 => h9) rfl dX6_build_32 ?_
      refine lv_icmp_ge (tgt := 59) hx hb dX6_build_35 (by decide) (fun cz => ?_) (fun cz => ?_)
      · have h := g_t h cz
        have h' := Option.some.inj h
        rw [← hQQ]
        exact W.vret hx hb hr (fun t ht hW => ⟨⟨(), rfl, trivial, by rw [← hWQ, ← h', ht]; exact hP, va_K.moved hW.alike hK⟩, hS.F ht⟩) hS.2.2 dX6_build_59
      · have h := g_f h cz
        refine lv_iload hx hb dX6_build_38 (lv_at hl 2 rfl) ?_
        refine lv_sipush (v := 512) hx hb dX6_build_40 (by decide) ?_
        refine lv_icmp_ge (tgt := 59) hx hb dX6_build_43 (by decide) (fun cz => ?_) (fun cz => ?_)
        · have h := g_t h cz
          have h' := Option.some.inj h
          rw [← hQQ]
          exact W.vret hx hb hr (fun t ht hW => ⟨⟨(), rfl, trivial, by rw [← hWQ, ← h', ht]; exact hP, va_K.moved hW.alike hK⟩, hS.F ht⟩) hS.2.2 dX6_build_59
        · have h := g_f h cz
          refine lv_aload_n hx hb dX6_build_46 rfl (lv_at hl 0 rfl) ?_
          refine lv_aload_n hx hb dX6_build_47 rfl (lv_at hl 1 rfl) ?_
          refine lv_iload hx hb dX6_build_48 (lv_at hl 2 rfl) ?_
          obtain ⟨q50, e50, h⟩ := g_b h
          refine callVvs (cc := cX6_build) (w1 := zzW ad cy (ad 15) (ad 22) (us iW [(1, q50.1), (4, q50.2.1)]) (us aW [(0, q50.2.2.1), (2, q50.2.2.2.1), (3, q50.2.2.2.2)]) iK lK aK iB lB aB iC aC) (As := [.ref (ad 4), .int v4]) (rest := []) ⟨hx, hb, hml, hown, hts⟩ (c_W_addEdges l dC dI cy ad H.size N v4 ((us iW [(1, x_iW1), (4, x_iW4)])) ((us aW [(0, x_aW0), (2, x_aW2), (3, x_aW3)])) iK lK aK iB lB aB iC aC q50 e50) (cwV 2 hts (goodV m_ml_X6_46 m_im_X6_addEdges m_se_X6_addEdges m_in_X6 m_cd_X6_addEdges) rfl rfl rfl (by decide +kernel) ⟨Nat.le_of_ble_eq_true rfl, Nat.le_of_ble_eq_true rfl⟩) hN hK hP hD hS hA rfl 0 rfl rfl rfl hl.1 rfl (Nat.le_of_ble_eq_true rfl) dX6_build_50 ⟨Nat.zero_le _, Nat.zero_le _⟩ (fun H locs hP hD hS => ?_)
          refine lv_iinc (v := (v4 + (1 : Int32))) (lv' := [(4, .int ((v4 + (1 : Int32)))), (0, .ref (ad 0)), (1, .ref (ad 4))]) hx hb dX6_build_53 hl (k := 2) rfl rfl (by decide) rfl (fun ls hl => ?_)
          refine lv_goto (tgt := 29) hx hb dX6_build_56 (by decide) ?_
          exact ih ((v4 + (1 : Int32))) q50.1 q50.2.1 q50.2.2.1 q50.2.2.2.1 q50.2.2.2.2 H locs ls h hP hD hS (lv_sub hl [1, 2, 0] rfl)
  intro H locs hP hD hS
  unfold f_W_build at h
  refine lv_aload_n hx hb dX6_build_0 rfl (lv_at hl 0 rfl) ?_
  obtain ⟨q1, e1, h⟩ := g_b h
  refine callVv (cc := cX6_build) (ws' := zzW ad cy (ad 15) (ad 22) (us iW [(1, q1.1), (4, q1.2.1)]) (us aW [(2, q1.2.2)]) iK lK aK iB lB aB iC aC) (As := []) (rest := []) ⟨hx, hb, hml, hown, hts⟩ (c_W_clear l dC dI cy ad H.size N iW aW q1 e1) (cwV 0 hts (goodV m_ml_X6_29 m_im_X6_clear m_se_X6_clear m_in_X6 m_cd_X6_clear) rfl rfl rfl (by decide +kernel) ⟨Nat.le_of_ble_eq_true rfl, Nat.le_of_ble_eq_true rfl⟩) hN hK hP hD hS hA [0, 1, 2, 3] [some 0, some 1, some 2, some 3, none, none, none, none, none, none, none, none, none, none, none, none, none, none, none, none, none, none, none, none, none, none, none, none, none, none, none] rfl rfl rfl rfl rfl rfl 0 rfl rfl rfl hl.1 rfl (Nat.le_of_ble_eq_true rfl) dX6_build_1 ⟨Nat.zero_le _, Nat.zero_le _⟩ (fun H locs hP hD hS => ?_)
  refine lv_aload_n hx hb dX6_build_4 rfl (lv_at hl 1 rfl) ?_
  refine lv_iload_n hx hb dX6_build_5 rfl (lv_at hl 2 rfl) ?_
  refine lv_aload_n hx hb dX6_build_6 rfl (lv_at hl 1 rfl) ?_
  refine va_get (D := (dC, dI)) (ci := 2) (v := .ref (ad 10)) (C := RX2) (T := TX2) (N := 15) hx hb hts ki2 hown hK hP 4 rfl rfl 9 (by decide) kf32 (fun _ h9 => h9) rfl dX6_build_7 ?_
  obtain ⟨q10, e10, h⟩ := g_b h
  refine callVi (cc := cX6_build) (ws' := zzW ad cy (ad 15) (ad 22) (us iW [(1, q1.1), (4, q1.2.1)]) (us aW [(2, q1.2.2)]) iK lK aK iB lB aB iC aC) (As := [.int a2, .ref (ad 10)]) (rest := []) ⟨hx, hb, hml, hown, hts⟩ (c_K_leastWhere_standing l dC dI cy (fun i => ad (i + 4)) H.size N a2 iK lK aK iB lB aB iC aC q10 e10) (cwV 2 hts (goodV m_ml_X6_38 m_im_X2_leastWhere m_se_X2_leastWhere m_in_X2 m_cd_X2_leastWhere) rfl rfl rfl (by decide +kernel) ⟨Nat.le_of_ble_eq_true rfl, Nat.le_of_ble_eq_true rfl⟩) hN hK hP hD hS hA [4, 5, 6, 7, 8, 9, 10, 11, 12, 13, 14, 15, 16, 17, 18, 19, 20, 21, 22, 23, 24, 25, 26, 27, 28, 29, 30] [none, none, none, none, some 0, some 1, some 2, some 3, some 4, some 5, some 6, some 7, some 8, some 9, some 10, some 11, some 12, some 13, some 14, some 15, some 16, some 17, some 18, some 19, some 20, some 21, some 22, some 23, some 24, some 25, some 26] rfl rfl rfl rfl rfl rfl 4 rfl rfl rfl hl.1 rfl (Nat.le_of_ble_eq_true rfl) dX6_build_10 ⟨Nat.zero_le _, Nat.zero_le _⟩ (fun H locs hP hD hS => ?_)
  refine lv_istore_n (lv' := [(3, .int q10), (0, .ref (ad 0)), (1, .ref (ad 4)), (2, .int a2)]) hx hb dX6_build_13 rfl hl (by decide) rfl (fun ls hl => ?_)
  refine lv_iload_n hx hb dX6_build_14 rfl (lv_at hl 0 rfl) ?_
  refine lv_iconst (v := (-1)) hx hb dX6_build_15 (by decide) ?_
  refine lv_icmp_ne (tgt := 20) hx hb dX6_build_16 (by decide) (fun cz => ?_) (fun cz => ?_)
  · have h := g_f h cz
    refine lv_aload_n hx hb dX6_build_20 rfl (lv_at hl 1 rfl) ?_
    refine lv_iload_n hx hb dX6_build_21 rfl (lv_at hl 0 rfl) ?_
    obtain ⟨q22, e22, h⟩ := g_b h
    refine callVi (cc := cX6_build) (ws' := zzW ad cy (ad 15) (ad 22) (us iW [(1, q22.2.1), (4, q1.2.1)]) (us aW [(0, q22.2.2.1), (2, q22.2.2.2)]) iK lK aK iB lB aB iC aC) (As := [.int q10]) (rest := []) ⟨hx, hb, hml, hown, hts⟩ (c_W_thingFor l dC dI cy ad H.size q10 ((us iW [(1, q1.1), (4, q1.2.1)])) ((us aW [(2, q1.2.2)])) q22 e22) (cwV 1 hts (goodV m_ml_X6_42 m_im_X6_thingFor m_se_X6_thingFor m_in_X6 m_cd_X6_thingFor) rfl rfl rfl (by decide +kernel) ⟨Nat.le_of_ble_eq_true rfl, Nat.le_of_ble_eq_true rfl⟩) hN hK hP hD hS hA [0, 1, 2, 3] [some 0, some 1, some 2, some 3, none, none, none, none, none, none, none, none, none, none, none, none, none, none, none, none, none, none, none, none, none, none, none, none, none, none, none] rfl rfl rfl rfl rfl rfl 0 rfl rfl rfl hl.1 rfl (Nat.le_of_ble_eq_true rfl) dX6_build_22 ⟨Nat.zero_le _, Nat.zero_le _⟩ (fun H locs hP hD hS => ?_)
    refine lv_pop hx hb dX6_build_25 rfl ?_
    refine lv_iconst (v := 0) hx hb dX6_build_26 (by decide) ?_
    refine lv_istore (lv' := [(4, .int ((0 : Int32))), (3, .int q10), (0, .ref (ad 0)), (1, .ref (ad 4)), (2, .int a2)]) hx hb dX6_build_27 hl (by decide) rfl (fun ls hl => ?_)
    exact B29 N ((0 : Int32)) q22.2.1 q1.2.1 q22.2.2.1 q22.2.2.2 (aW 3) H locs ls h hP hD hS (lv_sub hl [2, 3, 0] rfl)
  · have h := g_t h cz
    have h' := Option.some.inj h
    rw [← hQQ]
    exact W.vret hx hb hr (fun t ht hW => ⟨⟨(), rfl, trivial, by rw [← hWQ, ← h', ht]; exact hP, va_K.moved hW.alike hK⟩, hS.F ht⟩) hS.2.2 dX6_build_19
