def f_W_addEdges_10 (N : Nat) (iB13 : Int32) (iC9 : Int32) (aC5 : Nat → Int32) (lK4 : Nat → Int64) (lK9 : Nat → Int64) (aK5 : Nat → Int32) (aK6 : Nat → Int32) (iW1 : Int32) (iW4 : Int32) (aW0 : Nat → Int32) (aW2 : Nat → Int32) (aW3 : Nat → Int32) (v2 : Int32) (v3 : Int32) : Nat → Int32 → Int32 → Int32 → (Nat → Int32) → (Nat → Int32) → (Nat → Int32) → Option (Int32 × Int32 × (Nat → Int32) × (Nat → Int32) × (Nat → Int32))
  | 0, _, _, _, _, _, _ => none
  | n + 1, v4, x_iW1, x_iW4, x_aW0, x_aW2, x_aW3 => if (9 : Int32) ≤ v4 then (some (x_iW1, x_iW4, x_aW0, x_aW2, x_aW3)) else (if ((v3 >>> (v4 &&& 31)) &&& (1 : Int32)) = (1 : Int32) then ((f_K_isServed v3 v4 iB13 iC9 aC5 aK5).bind fun q31 => (if q31 = 0 then ((f_K_leastMeeting_standing N v3 v4 iB13 iC9 aC5 lK4 lK9 aK5 aK6).bind fun q45 => (if q45 = (-1 : Int32) then (f_W_addEdges_10 N iB13 iC9 aC5 lK4 lK9 aK5 aK6 iW1 iW4 aW0 aW2 aW3 v2 v3 n ((v4 + (1 : Int32))) x_iW1 x_iW4 x_aW0 x_aW2 x_aW3) else (if (2304 : Int32) ≤ x_iW4 then (f_W_addEdges_10 N iB13 iC9 aC5 lK4 lK9 aK5 aK6 iW1 iW4 aW0 aW2 aW3 v2 v3 n ((v4 + (1 : Int32))) x_iW1 x_iW4 x_aW0 x_aW2 x_aW3) else ((f_C_roleOfAtom v4 iC9 aC5).bind fun q72 => ((f_W_thingFor q45 x_iW1 x_aW0 x_aW2).bind fun q89 => (if x_iW4 < 0 ∨ 2304 ≤ x_iW4.toNatClampNeg then none else (f_W_addEdges_10 N iB13 iC9 aC5 lK4 lK9 aK5 aK6 iW1 iW4 aW0 aW2 aW3 v2 v3 n ((v4 + (1 : Int32))) q89.2.1 ((x_iW4 + (1 : Int32))) q89.2.2.1 q89.2.2.2 ((upd x_aW3 x_iW4.toNatClampNeg (((v2 ||| (q89.1 <<< ((10 : Int32) &&& 31))) ||| (q72 <<< ((20 : Int32) &&& 31))))))))))))) else (f_W_addEdges_10 N iB13 iC9 aC5 lK4 lK9 aK5 aK6 iW1 iW4 aW0 aW2 aW3 v2 v3 n ((v4 + (1 : Int32))) x_iW1 x_iW4 x_aW0 x_aW2 x_aW3))) else (f_W_addEdges_10 N iB13 iC9 aC5 lK4 lK9 aK5 aK6 iW1 iW4 aW0 aW2 aW3 v2 v3 n ((v4 + (1 : Int32))) x_iW1 x_iW4 x_aW0 x_aW2 x_aW3))
def f_W_addEdges (N : Nat) (a2 : Int32) (iB13 : Int32) (iC9 : Int32) (aC5 : Nat → Int32) (lK4 : Nat → Int64) (lK9 : Nat → Int64) (aK5 : Nat → Int32) (aK6 : Nat → Int32) (iW1 : Int32) (iW4 : Int32) (aW0 : Nat → Int32) (aW2 : Nat → Int32) (aW3 : Nat → Int32) : Option (Int32 × Int32 × (Nat → Int32) × (Nat → Int32) × (Nat → Int32)) := if a2 < 0 ∨ 512 ≤ a2.toNatClampNeg then none else (f_W_addEdges_10 N iB13 iC9 aC5 lK4 lK9 aK5 aK6 iW1 iW4 aW0 aW2 aW3 a2 ((aW0 a2.toNatClampNeg)) N ((0 : Int32)) iW1 iW4 aW0 aW2 aW3)
set_option maxHeartbeats 8000000 in
set_option maxRecDepth 100000 in
theorem c_W_addEdges (l : Launch) (dC : Nat → ClassId) (dI : Nat → Nat → Nat) (cy : Nat → ClassId) (ad : Nat → Nat) (sz : Nat) (N : Nat) (a2 : Int32) (iW : Nat → Int32) (aW : Nat → Nat → Int32) (iK : Nat → Int32) (lK : Nat → Nat → Int64) (aK : Nat → Nat → Int32) (iB : Nat → Int32) (lB : Nat → Nat → Int64) (aB : Nat → Nat → Int32) (iC : Nat → Int32) (aC : Nat → Nat → Int32) (q : Int32 × Int32 × (Nat → Int32) × (Nat → Int32) × (Nat → Int32)) (h : f_W_addEdges N a2 (iB 13) (iC 9) (aC 5) (lK 4) (lK 9) (aK 5) (aK 6) (iW 1) (iW 4) (aW 0) (aW 2) (aW 3) = some q) : Met l yX6_addEdges wsX6_addEdges ({ frames := 3, cells := 0, slots := 0, locals := 72 } : Room) (cP (dC, dI) cy [.ref (ad 0), .ref (ad 4), .int a2] (zzW ad cy (ad 15) (ad 22) iW aW iK lK aK iB lB aB iC aC) sz) (cQv (dC, dI) cy (zzW ad cy (ad 15) (ad 22) (us iW [(1, q.1), (4, q.2.1)]) (us aW [(0, q.2.2.1), (2, q.2.2.2.1), (3, q.2.2.2.2)]) iK lK aK iB lB aB iC aC) (va_A (zzW ad cy (ad 15) (ad 22) iW aW iK lK aK iB lB aB iC aC) sz)) 0 0 (va_A (zzW ad cy (ad 15) (ad 22) iW aW iK lK aK iB lB aB iC aC) sz) := by
  refine Met.ofW (cc := cX6_addEdges) (maxL := 7) (ret := none) (by decide) rfl ?_
  intro p e s m args below meth c s₁ B hml hv
  obtain ⟨hav, hsz, hP, hK, hD0, hN⟩ := hv
  have hx := B.exec
  have hb := B.bytes
  have hr := B.returns
  have hts := atoms_spec (ws := wsX6_addEdges) B.pre
  have hown : s.vm.findClass RX6 = some m.cls := findClass_of_methodNamed B.named
  have hlocks := B.notSynchronized
  subst hsz
  have hD := hD0.self (sz := s.heap.size)
  generalize hAe : va_A (zzW ad cy (ad 15) (ad 22) iW aW iK lK aK iB lB aB iC aC) s.heap.size = A at hD ⊢
  have hA : ∀ q : Nat, s.heap.size ≤ q → A q := fun q h => by rw [← hAe]; exact Or.inr h
  have hS : va_S A s.heap s.heap [] := va_S.rf
  generalize hWQ : (zzW ad cy (ad 15) (ad 22) (us iW [(1, q.1), (4, q.2.1)]) (us aW [(0, q.2.2.1), (2, q.2.2.2.1), (3, q.2.2.2.2)]) iK lK aK iB lB aB iC aC) = WQ
  generalize hQQ : MQ below (cQv (dC, dI) cy WQ A) args s 0 0 A = QQ
  have hl := lv_entry ([.ref (ad 0), .ref (ad 4), .int a2] : List Value) (n := 7) (Nat.le_of_ble_eq_true rfl)
  have hfr := lg_entry_eq m ([.ref (ad 0), .ref (ad 4), .int a2] : List Value) 7
  rw [← hav] at hfr
  rw [hfr]
  clear hfr hav
  generalize (lg_sl ([.ref (ad 0), .ref (ad 4), .int a2] : List Value) ++ List.replicate (7 - (lg_sl ([.ref (ad 0), .ref (ad 4), .int a2] : List Value)).length) Slot.unset).toArray = ls at hl ⊢
  have hl : lv_has ls 7 [(0, .ref (ad 0)), (1, .ref (ad 4)), (2, .int a2)] := hl
  have kf32 := hts _ (List.mem_cons_of_mem _ m_fl_X6_32)
  have ki2 := (fun w h => List.mem_cons_of_mem _ (i_X2 w h) : ∀ w ∈ u_ws RX2 TX2 15, w ∈ wsX6_addEdges)
  have kf26 := hts _ (List.mem_cons_of_mem _ m_fl_X6_26)
  have ki6 := (fun w h => List.mem_cons_of_mem _ (i_X6 w h) : ∀ w ∈ u_ws RX6 TX6 5, w ∈ wsX6_addEdges)
  have kf18 := hts _ (List.mem_cons_of_mem _ m_fl_X6_18)
  have kf9 := hts _ (List.mem_cons_of_mem _ m_fl_X6_9)
  refine (?_ : ∀ (H : Heap) (locs : List Loc), va_P (dC, dI) vwCl (zzW ad cy (ad 15) (ad 22) iW aW iK lK aK iB lB aB iC aC) H → va_D A (zzW ad cy (ad 15) (ad 22) iW aW iK lK aK iB lB aB iC aC) → va_S A s.heap H locs → W p l e ({ frames := 3, cells := 0, slots := 0, locals := 72 } : Room) s m args below meth c H locs 0 0 QQ (F0 m 0 ls [])) s.heap [] hP hD hS
  clear hP hD hS
  have B10 : ∀ (n : Nat) (v2 : Int32) (v3 : Int32) (v4 : Int32) (x_iW1 : Int32) (x_iW4 : Int32) (x_aW0 : Nat → Int32) (x_aW2 : Nat → Int32) (x_aW3 : Nat → Int32) (H : Heap) (locs : List Loc) (ls : Array Slot), f_W_addEdges_10 N (iB 13) (iC 9) (aC 5) (lK 4) (lK 9) (aK 5) (aK 6) (iW 1) (iW 4) (aW 0) (aW 2) (aW 3) v2 v3 n v4 x_iW1 x_iW4 x_aW0 x_aW2 x_aW3 = some q → va_P (dC, dI) vwCl (zzW ad cy (ad 15) (ad 22) (us iW [(1, x_iW1), (4, x_iW4)]) (us aW [(0, x_aW0), (2, x_aW2), (3, x_aW3)]) iK lK aK iB lB aB iC aC) H → va_D A (zzW ad cy (ad 15) (ad 22) (us iW [(1, x_iW1), (4, x_iW4)]) (us aW [(0, x_aW0), (2, x_aW2), (3, x_aW3)]) iK lK aK iB lB aB iC aC) → va_S A s.heap H locs → lv_has ls 7 [(0, .ref (ad 0)), (1, .ref (ad 4)), (2, .int v2), (3, .int v3), (4, .int v4)] → W p l e ({ frames := 3, cells := 0, slots := 0, locals := 72 } : Room) s m args below meth c H locs 0 0 QQ (F0 m 10 ls []) := by
    intro n
    induction n with
    | zero =>
      intro v2 v3 v4 x_iW1 x_iW4 x_aW0 x_aW2 x_aW3 H locs ls h hP hD hS hl
      rw [f_W_addEdges_10] at h
      cases h
    | succ n ih =>
      intro v2 v3 v4 x_iW1 x_iW4 x_aW0 x_aW2 x_aW3 H locs ls h hP hD hS hl
      rw [f_W_addEdges_10] at h
      refine lv_iload hx hb dX6_addEdges_10 (lv_at hl 4 rfl) ?_
      refine lv_bipush (v := 9) hx hb dX6_addEdges_12 (by decide) ?_
      refine lv_icmp_ge (tgt := 119) hx hb dX6_addEdges_14 (by decide) (fun cz => ?_) (fun cz => ?_)
      · have h := g_t h cz
        have h' := Option.some.inj h
        rw [← hQQ]
        exact W.vret hx hb hr (fun t ht hW => ⟨⟨(), rfl, trivial, by rw [← hWQ, ← h', ht]; exact hP, va_K.moved hW.alike hK⟩, hS.F ht⟩) hS.2.2 dX6_addEdges_119
      · have h := g_f h cz
        refine lv_iload_n hx hb dX6_addEdges_17 rfl (lv_at hl 3 rfl) ?_
        refine lv_iload hx hb dX6_addEdges_18 (lv_at hl 4 rfl) ?_
        refine lv_ishr hx hb dX6_addEdges_20 ?_
        refine lv_iconst (v := 1) hx hb dX6_addEdges_21 (by decide) ?_
        refine lv_iand hx hb dX6_addEdges_22 ?_
        refine lv_iconst (v := 1) hx hb dX6_addEdges_23 (by decide) ?_
        refine lv_icmp_ne (tgt := 113) hx hb dX6_addEdges_24 (by decide) (fun cz => ?_) (fun cz => ?_)
        · have h := g_f h cz
          refine lv_iinc (v := (v4 + (1 : Int32))) (lv' := [(4, .int ((v4 + (1 : Int32)))), (0, .ref (ad 0)), (1, .ref (ad 4)), (2, .int v2), (3, .int v3)]) hx hb dX6_addEdges_113 hl (k := 4) rfl rfl (by decide) rfl (fun ls hl => ?_)
          refine lv_goto (tgt := 10) hx hb dX6_addEdges_116 (by decide) ?_
          exact ih v2 v3 ((v4 + (1 : Int32))) x_iW1 x_iW4 x_aW0 x_aW2 x_aW3 H locs ls h hP hD hS (lv_sub hl [1, 2, 3, 4, 0] rfl)
        · have h := g_t h cz
          refine lv_aload_n hx hb dX6_addEdges_27 rfl (lv_at hl 1 rfl) ?_
          refine lv_iload_n hx hb dX6_addEdges_28 rfl (lv_at hl 3 rfl) ?_
          refine lv_iload hx hb dX6_addEdges_29 (lv_at hl 4 rfl) ?_
          obtain ⟨q31, e31, h⟩ := g_b h
          refine callVi (cc := cX6_addEdges) (ws' := zzW ad cy (ad 15) (ad 22) (us iW [(1, x_iW1), (4, x_iW4)]) (us aW [(0, x_aW0), (2, x_aW2), (3, x_aW3)]) iK lK aK iB lB aB iC aC) (As := [.int v3, .int v4]) (rest := []) ⟨hx, hb, hml, hown, hts⟩ (c_K_isServed l dC dI cy (fun i => ad (i + 4)) H.size v3 v4 iK lK aK iB lB aB iC aC q31 e31) (cwV 2 hts (goodV m_ml_X6_50 m_im_X2_isServed m_se_X2_isServed m_in_X2 m_cd_X2_isServed) rfl rfl rfl (by decide +kernel) ⟨Nat.le_of_ble_eq_true rfl, Nat.le_of_ble_eq_true rfl⟩) hN hK hP hD hS hA [4, 5, 6, 7, 8, 9, 10, 11, 12, 13, 14, 15, 16, 17, 18, 19, 20, 21, 22, 23, 24, 25, 26, 27, 28, 29, 30] [none, none, none, none, some 0, some 1, some 2, some 3, some 4, some 5, some 6, some 7, some 8, some 9, some 10, some 11, some 12, some 13, some 14, some 15, some 16, some 17, some 18, some 19, some 20, some 21, some 22, some 23, some 24, some 25, some 26] rfl rfl rfl rfl rfl rfl 4 rfl rfl rfl hl.1 rfl (Nat.le_of_ble_eq_true rfl) dX6_addEdges_31 ⟨Nat.zero_le _, Nat.zero_le _⟩ (fun H locs hP hD hS => ?_)
          refine lv_if_ne (tgt := 113) hx hb dX6_addEdges_34 (by decide) (fun cz => ?_) (fun cz => ?_)
          · have h := g_f h cz
            refine lv_iinc (v := (v4 + (1 : Int32))) (lv' := [(4, .int ((v4 + (1 : Int32)))), (0, .ref (ad 0)), (1, .ref (ad 4)), (2, .int v2), (3, .int v3)]) hx hb dX6_addEdges_113 hl (k := 4) rfl rfl (by decide) rfl (fun ls hl => ?_)
            refine lv_goto (tgt := 10) hx hb dX6_addEdges_116 (by decide) ?_
            exact ih v2 v3 ((v4 + (1 : Int32))) x_iW1 x_iW4 x_aW0 x_aW2 x_aW3 H locs ls h hP hD hS (lv_sub hl [1, 2, 3, 4, 0] rfl)
          · have h := g_t h cz
            refine lv_aload_n hx hb dX6_addEdges_37 rfl (lv_at hl 1 rfl) ?_
            refine lv_iload_n hx hb dX6_addEdges_38 rfl (lv_at hl 3 rfl) ?_
            refine lv_iload hx hb dX6_addEdges_39 (lv_at hl 4 rfl) ?_
            refine lv_aload_n hx hb dX6_addEdges_41 rfl (lv_at hl 1 rfl) ?_
            refine va_get (D := (dC, dI)) (ci := 2) (v := .ref (ad 10)) (C := RX2) (T := TX2) (N := 15) hx hb hts ki2 hown hK hP 4 rfl rfl 9 (by decide) kf32 (fun _ h9 => h9) rfl dX6_addEdges_42 ?_
            obtain ⟨q45, e45, h⟩ := g_b h
            refine callVi (cc := cX6_addEdges) (ws' := zzW ad cy (ad 15) (ad 22) (us iW [(1, x_iW1), (4, x_iW4)]) (us aW [(0, x_aW0), (2, x_aW2), (3, x_aW3)]) iK lK aK iB lB aB iC aC) (As := [.int v3, .int v4, .ref (ad 10)]) (rest := []) ⟨hx, hb, hml, hown, hts⟩ (c_K_leastMeeting_standing l dC dI cy (fun i => ad (i + 4)) H.size N v3 v4 iK lK aK iB lB aB iC aC q45 e45) (cwV 3 hts (goodV m_ml_X6_54 m_im_X2_leastMeeting m_se_X2_leastMeeting m_in_X2 m_cd_X2_leastMeeting) rfl rfl rfl (by decide +kernel) ⟨Nat.le_of_ble_eq_true rfl, Nat.le_of_ble_eq_true rfl⟩) hN hK hP hD hS hA [4, 5, 6, 7, 8, 9, 10, 11, 12, 13, 14, 15, 16, 17, 18, 19, 20, 21, 22, 23, 24, 25, 26, 27, 28, 29, 30] [none, none, none, none, some 0, some 1, some 2, some 3, some 4, some 5, some 6, some 7, some 8, some 9, some 10, some 11, some 12, some 13, some 14, some 15, some 16, some 17, some 18, some 19, some 20, some 21, some 22, some 23, some 24, some 25, some 26] rfl rfl rfl rfl rfl rfl 4 rfl rfl rfl hl.1 rfl (Nat.le_of_ble_eq_true rfl) dX6_addEdges_45 ⟨Nat.zero_le _, Nat.zero_le _⟩ (fun H locs hP hD hS => ?_)
            refine lv_istore (lv' := [(5, .int q45), (0, .ref (ad 0)), (1, .ref (ad 4)), (2, .int v2), (3, .int v3), (4, .int v4)]) hx hb dX6_addEdges_48 hl (by decide) rfl (fun ls hl => ?_)
            refine lv_iload hx hb dX6_addEdges_50 (lv_at hl 0 rfl) ?_
            refine lv_iconst (v := (-1)) hx hb dX6_addEdges_52 (by decide) ?_
            refine lv_icmp_eq (tgt := 113) hx hb dX6_addEdges_53 (by decide) (fun cz => ?_) (fun cz => ?_)
            · have h := g_t h cz
              refine lv_iinc (v := (v4 + (1 : Int32))) (lv' := [(4, .int ((v4 + (1 : Int32)))), (5, .int q45), (0, .ref (ad 0)), (1, .ref (ad 4)), (2, .int v2), (3, .int v3)]) hx hb dX6_addEdges_113 hl (k := 5) rfl rfl (by decide) rfl (fun ls hl => ?_)
              refine lv_goto (tgt := 10) hx hb dX6_addEdges_116 (by decide) ?_
              exact ih v2 v3 ((v4 + (1 : Int32))) x_iW1 x_iW4 x_aW0 x_aW2 x_aW3 H locs ls h hP hD hS (lv_sub hl [2, 3, 4, 5, 0] rfl)
            · have h := g_f h cz
              refine lv_aload_n hx hb dX6_addEdges_56 rfl (lv_at hl 1 rfl) ?_
              refine va_get (D := (dC, dI)) (ci := 6) (v := .int x_iW4) (C := RX6) (T := TX6) (N := 5) hx hb hts ki6 hown hK hP 0 rfl rfl 4 (by decide) kf26 (fun _ h9 => h9) rfl dX6_addEdges_57 ?_
              refine lv_sipush (v := 2304) hx hb dX6_addEdges_60 (by decide) ?_
              refine lv_icmp_ge (tgt := 113) hx hb dX6_addEdges_63 (by decide) (fun cz => ?_) (fun cz => ?_)
              · have h := g_t h cz
                refine lv_iinc (v := (v4 + (1 : Int32))) (lv' := [(4, .int ((v4 + (1 : Int32)))), (5, .int q45), (0, .ref (ad 0)), (1, .ref (ad 4)), (2, .int v2), (3, .int v3)]) hx hb dX6_addEdges_113 hl (k := 5) rfl rfl (by decide) rfl (fun ls hl => ?_)
                refine lv_goto (tgt := 10) hx hb dX6_addEdges_116 (by decide) ?_
                exact ih v2 v3 ((v4 + (1 : Int32))) x_iW1 x_iW4 x_aW0 x_aW2 x_aW3 H locs ls h hP hD hS (lv_sub hl [2, 3, 4, 5, 0] rfl)
              · have h := g_f h cz
                refine lv_aload_n hx hb dX6_addEdges_66 rfl (lv_at hl 2 rfl) ?_
                refine va_getN (D := (dC, dI)) (ci := 2) (v := .ref (ad 22)) (C := RX2) (T := TX2) (N := 15) hx hb hts ki2 hown hK hP 4 rfl rfl 1 (by decide) (va_Nw.use rfl hN.1) (fun _ h9 => h9) rfl dX6_addEdges_67 ?_
                refine lv_iload hx hb dX6_addEdges_70 (lv_at hl 5 rfl) ?_
                obtain ⟨q72, e72, h⟩ := g_b h
                refine callVi (cc := cX6_addEdges) (ws' := zzW ad cy (ad 15) (ad 22) (us iW [(1, x_iW1), (4, x_iW4)]) (us aW [(0, x_aW0), (2, x_aW2), (3, x_aW3)]) iK lK aK iB lB aB iC aC) (As := [.int v4]) (rest := []) ⟨hx, hb, hml, hown, hts⟩ (c_C_roleOfAtom l dC dI cy (fun i => ad (i + 22)) H.size v4 iC aC q72 e72) (cwV 1 hts (goodV m_ml_X6_62 m_im_X1_roleOfAtom m_se_X1_roleOfAtom m_in_X1 m_cd_X1_roleOfAtom) rfl rfl rfl (by decide +kernel) ⟨Nat.le_of_ble_eq_true rfl, Nat.le_of_ble_eq_true rfl⟩) hN hK hP hD hS hA [22, 23, 24, 25, 26, 27, 28, 29, 30] [none, none, none, none, none, none, none, none, none, none, none, none, none, none, none, none, none, none, none, none, none, none, some 0, some 1, some 2, some 3, some 4, some 5, some 6, some 7, some 8] rfl rfl rfl rfl rfl rfl 22 rfl rfl rfl hl.1 rfl (Nat.le_of_ble_eq_true rfl) dX6_addEdges_72 ⟨Nat.zero_le _, Nat.zero_le _⟩ (fun H locs hP hD hS => ?_)
                refine lv_istore (lv' := [(6, .int q72), (5, .int q45), (0, .ref (ad 0)), (1, .ref (ad 4)), (2, .int v2), (3, .int v3), (4, .int v4)]) hx hb dX6_addEdges_75 hl (by decide) rfl (fun ls hl => ?_)
                refine lv_aload_n hx hb dX6_addEdges_77 rfl (lv_at hl 2 rfl) ?_
                refine va_get (D := (dC, dI)) (ci := 6) (v := .ref (ad 3)) (C := RX6) (T := TX6) (N := 5) hx hb hts ki6 hown hK hP 0 rfl rfl 3 (by decide) kf18 (fun _ h9 => h9) rfl dX6_addEdges_78 ?_
                refine lv_aload_n hx hb dX6_addEdges_81 rfl (lv_at hl 2 rfl) ?_
                refine va_get (D := (dC, dI)) (ci := 6) (v := .int x_iW4) (C := RX6) (T := TX6) (N := 5) hx hb hts ki6 hown hK hP 0 rfl rfl 4 (by decide) kf26 (fun _ h9 => h9) rfl dX6_addEdges_82 ?_
                refine lv_iload_n hx hb dX6_addEdges_85 rfl (lv_at hl 4 rfl) ?_
                refine lv_aload_n hx hb dX6_addEdges_86 rfl (lv_at hl 2 rfl) ?_
                refine lv_iload hx hb dX6_addEdges_87 (lv_at hl 1 rfl) ?_
                obtain ⟨q89, e89, h⟩ := g_b h
                refine callVi (cc := cX6_addEdges) (ws' := zzW ad cy (ad 15) (ad 22) (us iW [(1, q89.2.1), (4, x_iW4)]) (us aW [(0, q89.2.2.1), (2, q89.2.2.2), (3, x_aW3)]) iK lK aK iB lB aB iC aC) (As := [.int q45]) (rest := [.int v2, .int x_iW4, .ref (ad 3)]) ⟨hx, hb, hml, hown, hts⟩ (c_W_thingFor l dC dI cy ad H.size q45 ((us iW [(1, x_iW1), (4, x_iW4)])) ((us aW [(0, x_aW0), (2, x_aW2), (3, x_aW3)])) q89 e89) (cwV 1 hts (goodV m_ml_X6_42 m_im_X6_thingFor m_se_X6_thingFor m_in_X6 m_cd_X6_thingFor) rfl rfl rfl (by decide +kernel) ⟨Nat.le_of_ble_eq_true rfl, Nat.le_of_ble_eq_true rfl⟩) hN hK hP hD hS hA [0, 1, 2, 3] [some 0, some 1, some 2, some 3, none, none, none, none, none, none, none, none, none, none, none, none, none, none, none, none, none, none, none, none, none, none, none, none, none, none, none] rfl rfl rfl rfl rfl rfl 0 rfl rfl rfl hl.1 rfl (Nat.le_of_ble_eq_true rfl) dX6_addEdges_89 ⟨Nat.zero_le _, Nat.zero_le _⟩ (fun H locs hP hD hS => ?_)
                refine lv_bipush (v := 10) hx hb dX6_addEdges_92 (by decide) ?_
                refine lv_ishl hx hb dX6_addEdges_94 ?_
                refine lv_ior hx hb dX6_addEdges_95 ?_
                refine lv_iload hx hb dX6_addEdges_96 (lv_at hl 0 rfl) ?_
                refine lv_bipush (v := 20) hx hb dX6_addEdges_98 (by decide) ?_
                refine lv_ishl hx hb dX6_addEdges_100 ?_
                refine lv_ior hx hb dX6_addEdges_101 ?_
                obtain ⟨g_38, h⟩ := g_n h
                refine va_iast (f := x_aW3) hx hb hK hP hD hS 3 0 rfl rfl g_38 dX6_addEdges_102 (fun H locs hP hD hS => ?_)
                have hP : va_P (dC, dI) vwCl (zzW ad cy (ad 15) (ad 22) (us iW [(1, q89.2.1), (4, x_iW4)]) (us aW [(0, q89.2.2.1), (2, q89.2.2.2), (3, (upd x_aW3 x_iW4.toNatClampNeg (((v2 ||| (q89.1 <<< ((10 : Int32) &&& 31))) ||| (q72 <<< ((20 : Int32) &&& 31))))))]) iK lK aK iB lB aB iC aC) H := Eq.mp (congrArg (fun w => va_P (dC, dI) vwCl w H) (stW_aW3 ad cy (ad 15) (ad 22) (us iW [(1, q89.2.1), (4, x_iW4)]) aW iK lK aK iB lB aB iC aC [(0, q89.2.2.1), (2, q89.2.2.2), (3, x_aW3)] ((upd x_aW3 x_iW4.toNatClampNeg (((v2 ||| (q89.1 <<< ((10 : Int32) &&& 31))) ||| (q72 <<< ((20 : Int32) &&& 31)))))))) hP
                have hD : va_D A (zzW ad cy (ad 15) (ad 22) (us iW [(1, q89.2.1), (4, x_iW4)]) (us aW [(0, q89.2.2.1), (2, q89.2.2.2), (3, (upd x_aW3 x_iW4.toNatClampNeg (((v2 ||| (q89.1 <<< ((10 : Int32) &&& 31))) ||| (q72 <<< ((20 : Int32) &&& 31))))))]) iK lK aK iB lB aB iC aC) := Eq.mp (congrArg (fun w => va_D A w) (stW_aW3 ad cy (ad 15) (ad 22) (us iW [(1, q89.2.1), (4, x_iW4)]) aW iK lK aK iB lB aB iC aC [(0, q89.2.2.1), (2, q89.2.2.2), (3, x_aW3)] ((upd x_aW3 x_iW4.toNatClampNeg (((v2 ||| (q89.1 <<< ((10 : Int32) &&& 31))) ||| (q72 <<< ((20 : Int32) &&& 31)))))))) hD
                refine lv_aload_n hx hb dX6_addEdges_103 rfl (lv_at hl 2 rfl) ?_
                refine lv_dup hx hb dX6_addEdges_104 rfl ?_
                refine va_get (D := (dC, dI)) (ci := 6) (v := .int x_iW4) (C := RX6) (T := TX6) (N := 5) hx hb hts ki6 hown hK hP 0 rfl rfl 4 (by decide) kf26 (fun _ h9 => h9) rfl dX6_addEdges_105 ?_
                refine lv_iconst (v := 1) hx hb dX6_addEdges_108 (by decide) ?_
                refine lv_iadd hx hb dX6_addEdges_109 ?_
                refine va_put (D := (dC, dI)) (ci := 6) (v := .int ((x_iW4 + (1 : Int32)))) (ty := .int) (C := RX6) (T := TX6) (N := 5) hx hb hts ki6 tyX6 tyX6_ok nmX6 hown hK hP hD hS 0 rfl rfl 4 (by decide) kf26 (fun _ h9 => h9) rfl (by decide +kernel) rfl rfl (Nat.le_of_ble_eq_true rfl) dX6_addEdges_110 (fun H locs hP hD hS => ?_)
                have hP : va_P (dC, dI) vwCl (zzW ad cy (ad 15) (ad 22) (us iW [(1, q89.2.1), (4, (x_iW4 + (1 : Int32)))]) (us aW [(0, q89.2.2.1), (2, q89.2.2.2), (3, (upd x_aW3 x_iW4.toNatClampNeg (((v2 ||| (q89.1 <<< ((10 : Int32) &&& 31))) ||| (q72 <<< ((20 : Int32) &&& 31))))))]) iK lK aK iB lB aB iC aC) H := Eq.mp (congrArg (fun w => va_P (dC, dI) vwCl w H) (stW_iW4 ad cy (ad 15) (ad 22) iW (us aW [(0, q89.2.2.1), (2, q89.2.2.2), (3, (upd x_aW3 x_iW4.toNatClampNeg (((v2 ||| (q89.1 <<< ((10 : Int32) &&& 31))) ||| (q72 <<< ((20 : Int32) &&& 31))))))]) iK lK aK iB lB aB iC aC [(1, q89.2.1), (4, x_iW4)] ((x_iW4 + (1 : Int32))))) hP
                have hD : va_D A (zzW ad cy (ad 15) (ad 22) (us iW [(1, q89.2.1), (4, (x_iW4 + (1 : Int32)))]) (us aW [(0, q89.2.2.1), (2, q89.2.2.2), (3, (upd x_aW3 x_iW4.toNatClampNeg (((v2 ||| (q89.1 <<< ((10 : Int32) &&& 31))) ||| (q72 <<< ((20 : Int32) &&& 31))))))]) iK lK aK iB lB aB iC aC) := Eq.mp (congrArg (fun w => va_D A w) (stW_iW4 ad cy (ad 15) (ad 22) iW (us aW [(0, q89.2.2.1), (2, q89.2.2.2), (3, (upd x_aW3 x_iW4.toNatClampNeg (((v2 ||| (q89.1 <<< ((10 : Int32) &&& 31))) ||| (q72 <<< ((20 : Int32) &&& 31))))))]) iK lK aK iB lB aB iC aC [(1, q89.2.1), (4, x_iW4)] ((x_iW4 + (1 : Int32))))) hD
                refine lv_iinc (v := (v4 + (1 : Int32))) (lv' := [(4, .int ((v4 + (1 : Int32)))), (6, .int q72), (5, .int q45), (0, .ref (ad 0)), (1, .ref (ad 4)), (2, .int v2), (3, .int v3)]) hx hb dX6_addEdges_113 hl (k := 6) rfl rfl (by decide) rfl (fun ls hl => ?_)
                refine lv_goto (tgt := 10) hx hb dX6_addEdges_116 (by decide) ?_
                exact ih v2 v3 ((v4 + (1 : Int32))) q89.2.1 ((x_iW4 + (1 : Int32))) q89.2.2.1 q89.2.2.2 ((upd x_aW3 x_iW4.toNatClampNeg (((v2 ||| (q89.1 <<< ((10 : Int32) &&& 31))) ||| (q72 <<< ((20 : Int32) &&& 31)))))) H locs ls h hP hD hS (lv_sub hl [3, 4, 5, 6, 0] rfl)
  intro H locs hP hD hS
  unfold f_W_addEdges at h
  refine lv_aload_n hx hb dX6_addEdges_0 rfl (lv_at hl 0 rfl) ?_
  refine va_get (D := (dC, dI)) (ci := 6) (v := .ref (ad 1)) (C := RX6) (T := TX6) (N := 5) hx hb hts ki6 hown hK hP 0 rfl rfl 0 (by decide) kf9 (fun _ h9 => h9) rfl dX6_addEdges_1 ?_
  refine lv_iload_n hx hb dX6_addEdges_4 rfl (lv_at hl 2 rfl) ?_
  obtain ⟨g_39, h⟩ := g_n h
  refine va_sald (f := (aW 0)) hx hb hK hP 1 3 rfl rfl g_39 dX6_addEdges_5 ?_
  refine lv_istore_n (lv' := [(3, .int (((aW 0) a2.toNatClampNeg))), (0, .ref (ad 0)), (1, .ref (ad 4)), (2, .int a2)]) hx hb dX6_addEdges_6 rfl hl (by decide) rfl (fun ls hl => ?_)
  refine lv_iconst (v := 0) hx hb dX6_addEdges_7 (by decide) ?_
  refine lv_istore (lv' := [(4, .int ((0 : Int32))), (3, .int (((aW 0) a2.toNatClampNeg))), (0, .ref (ad 0)), (1, .ref (ad 4)), (2, .int a2)]) hx hb dX6_addEdges_8 hl (by decide) rfl (fun ls hl => ?_)
  exact B10 N a2 (((aW 0) a2.toNatClampNeg)) ((0 : Int32)) (iW 1) (iW 4) (aW 0) (aW 2) (aW 3) H locs ls h hP hD hS (lv_sub hl [2, 3, 4, 1, 0] rfl)
