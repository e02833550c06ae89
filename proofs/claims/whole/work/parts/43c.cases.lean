section LAWC1
variable {E : EE} {n0 : Nat} {p : Program} {l : Launch} {e : Env} {s : State} {m : MethodId} {args : Array Value} {below : List Frame} {meth : Method} {c : Code} {Qf : State → Prop} {k n b L : Nat} {xs : Nat → Int32} {x : Int32} {σ : Mem}
set_option maxHeartbeats 4000000 in
set_option maxRecDepth 100000 in
theorem ca_runs (C : CxW E n0 p s m args meth c RL wsL_law cL_law 4 ret) (hX : va_X b L xs s s.heap) (hbl : b < n0) (hin : ∀ j : Int, 1 ≤ j → j ≤ 4 → vp_in (x + Int32.ofInt j) L) (hk : k ≤ room_1.cells ∧ n ≤ room_1.slots) (h : Inv σ) (kk : ∀ τ : Mem, Inv τ → JW E n0 p l e room_1 s m args below meth c Qf 4 k n 1363 (lvL E b x) [] τ) : JW E n0 p l e room_1 s m args below meth c Qf 4 k n 543 (lvL E b x) [] σ := by
  refine w_aload C 1 dL_law_543 rfl 2 rfl ?_
  refine w_arg C hX hbl dL_law_544 dL_law_545 dL_law_546 dL_law_547 dL_law_548 (hin 1 (by decide) (by decide)) ?_
  refine w_arg C hX hbl dL_law_549 dL_law_550 dL_law_551 dL_law_552 dL_law_553 (hin 2 (by decide) (by decide)) ?_
  refine w_callI (As := [.int (xs (x + Int32.ofInt 1).toNatClampNeg), .int (xs (x + Int32.ofInt 2).toNatClampNeg)]) (rest := []) C 0 (c_X5_runs (g_runs h)) (cwV 2 C.2.2.2.2.2.1 gL_law_X5_runs rfl rfl rfl hdX5_runs ⟨Nat.le_of_ble_eq_true rfl, Nat.le_of_ble_eq_true rfl⟩) rfl rfl rfl rfl (Nat.le_of_ble_eq_true rfl) hk dL_law_554 (fun r τ h1 => ?_)
  refine w_aload C 2 dL_law_557 rfl 1 rfl ?_
  refine w_arg C hX hbl dL_law_558 dL_law_559 dL_law_560 dL_law_561 dL_law_562 (hin 1 (by decide) (by decide)) ?_
  refine w_arg C hX hbl dL_law_563 dL_law_564 dL_law_565 dL_law_566 dL_law_567 (hin 2 (by decide) (by decide)) ?_
  refine w_callI (As := [.int (xs (x + Int32.ofInt 1).toNatClampNeg), .int (xs (x + Int32.ofInt 2).toNatClampNeg)]) (rest := [.int r]) C 64 (c_X6_runs h1) (cwV 2 C.2.2.2.2.2.1 gL_law_X6_runs rfl rfl rfl hdX6_runs ⟨Nat.le_of_ble_eq_true rfl, Nat.le_of_ble_eq_true rfl⟩) rfl rfl rfl rfl (Nat.le_of_ble_eq_true rfl) hk dL_law_568 (fun r1 τ1 h2 => ?_)
  obtain ⟨e9, hI⟩ := h2
  subst e9
  exact w_icmp_eq C 1363 dL_law_571 (by decide) (fun _ => kk τ1 hI) (fun h9 => absurd rfl h9)
set_option maxHeartbeats 4000000 in
set_option maxRecDepth 100000 in
theorem ca_ahead (C : CxW E n0 p s m args meth c RL wsL_law cL_law 4 ret) (hX : va_X b L xs s s.heap) (hbl : b < n0) (hin : ∀ j : Int, 1 ≤ j → j ≤ 4 → vp_in (x + Int32.ofInt j) L) (hk : k ≤ room_1.cells ∧ n ≤ room_1.slots) (h : Inv σ) (kk : ∀ τ : Mem, Inv τ → JW E n0 p l e room_1 s m args below meth c Qf 4 k n 1363 (lvL E b x) [] τ) : JW E n0 p l e room_1 s m args below meth c Qf 4 k n 576 (lvL E b x) [] σ := by
  refine w_aload C 1 dL_law_576 rfl 2 rfl ?_
  refine w_arg C hX hbl dL_law_577 dL_law_578 dL_law_579 dL_law_580 dL_law_581 (hin 1 (by decide) (by decide)) ?_
  refine w_arg C hX hbl dL_law_582 dL_law_583 dL_law_584 dL_law_585 dL_law_586 (hin 2 (by decide) (by decide)) ?_
  refine w_arg C hX hbl dL_law_587 dL_law_588 dL_law_589 dL_law_590 dL_law_591 (hin 3 (by decide) (by decide)) ?_
  refine w_callI (As := [.int (xs (x + Int32.ofInt 1).toNatClampNeg), .int (xs (x + Int32.ofInt 2).toNatClampNeg), .int (xs (x + Int32.ofInt 3).toNatClampNeg)]) (rest := []) C 0 (c_X5_ahead (g_ahead h)) (cwV 3 C.2.2.2.2.2.1 gL_law_X5_ahead rfl rfl rfl hdX5_ahead ⟨Nat.le_of_ble_eq_true rfl, Nat.le_of_ble_eq_true rfl⟩) rfl rfl rfl rfl (Nat.le_of_ble_eq_true rfl) hk dL_law_592 (fun r τ h1 => ?_)
  refine w_aload C 2 dL_law_595 rfl 1 rfl ?_
  refine w_arg C hX hbl dL_law_596 dL_law_597 dL_law_598 dL_law_599 dL_law_600 (hin 1 (by decide) (by decide)) ?_
  refine w_arg C hX hbl dL_law_601 dL_law_602 dL_law_603 dL_law_604 dL_law_605 (hin 2 (by decide) (by decide)) ?_
  refine w_arg C hX hbl dL_law_606 dL_law_607 dL_law_608 dL_law_609 dL_law_610 (hin 3 (by decide) (by decide)) ?_
  refine w_callI (As := [.int (xs (x + Int32.ofInt 1).toNatClampNeg), .int (xs (x + Int32.ofInt 2).toNatClampNeg), .int (xs (x + Int32.ofInt 3).toNatClampNeg)]) (rest := [.int r]) C 64 (c_X6_ahead h1) (cwV 3 C.2.2.2.2.2.1 gL_law_X6_ahead rfl rfl rfl hdX6_ahead ⟨Nat.le_of_ble_eq_true rfl, Nat.le_of_ble_eq_true rfl⟩) rfl rfl rfl rfl (Nat.le_of_ble_eq_true rfl) hk dL_law_611 (fun r1 τ1 h2 => ?_)
  obtain ⟨e9, hI⟩ := h2
  subst e9
  exact w_icmp_eq C 1363 dL_law_614 (by decide) (fun _ => kk τ1 hI) (fun h9 => absurd rfl h9)
set_option maxHeartbeats 4000000 in
set_option maxRecDepth 100000 in
theorem ca_soonest (C : CxW E n0 p s m args meth c RL wsL_law cL_law 4 ret) (hX : va_X b L xs s s.heap) (hbl : b < n0) (hin : ∀ j : Int, 1 ≤ j → j ≤ 4 → vp_in (x + Int32.ofInt j) L) (hk : k ≤ room_1.cells ∧ n ≤ room_1.slots) (h : Inv σ) (kk : ∀ τ : Mem, Inv τ → JW E n0 p l e room_1 s m args below meth c Qf 4 k n 1363 (lvL E b x) [] τ) : JW E n0 p l e room_1 s m args below meth c Qf 4 k n 619 (lvL E b x) [] σ := by
  refine w_aload C 1 dL_law_619 rfl 2 rfl ?_
  refine w_arg C hX hbl dL_law_620 dL_law_621 dL_law_622 dL_law_623 dL_law_624 (hin 1 (by decide) (by decide)) ?_
  refine w_callI (As := [.int (xs (x + Int32.ofInt 1).toNatClampNeg)]) (rest := []) C 0 (c_X5_soonest (g_soonest h)) (cwV 1 C.2.2.2.2.2.1 gL_law_X5_soonest rfl rfl rfl hdX5_soonest ⟨Nat.le_of_ble_eq_true rfl, Nat.le_of_ble_eq_true rfl⟩) rfl rfl rfl rfl (Nat.le_of_ble_eq_true rfl) hk dL_law_625 (fun r τ h1 => ?_)
  refine w_aload C 2 dL_law_628 rfl 1 rfl ?_
  refine w_arg C hX hbl dL_law_629 dL_law_630 dL_law_631 dL_law_632 dL_law_633 (hin 1 (by decide) (by decide)) ?_
  refine w_callI (As := [.int (xs (x + Int32.ofInt 1).toNatClampNeg)]) (rest := [.int r]) C 64 (c_X6_soonest h1) (cwV 1 C.2.2.2.2.2.1 gL_law_X6_soonest rfl rfl rfl hdX6_soonest ⟨Nat.le_of_ble_eq_true rfl, Nat.le_of_ble_eq_true rfl⟩) rfl rfl rfl rfl (Nat.le_of_ble_eq_true rfl) hk dL_law_634 (fun r1 τ1 h2 => ?_)
  obtain ⟨e9, hI⟩ := h2
  subst e9
  exact w_icmp_eq C 1363 dL_law_637 (by decide) (fun _ => kk τ1 hI) (fun h9 => absurd rfl h9)
set_option maxHeartbeats 4000000 in
set_option maxRecDepth 100000 in
theorem ca_again (C : CxW E n0 p s m args meth c RL wsL_law cL_law 4 ret) (hX : va_X b L xs s s.heap) (hbl : b < n0) (hin : ∀ j : Int, 1 ≤ j → j ≤ 4 → vp_in (x + Int32.ofInt j) L) (hk : k ≤ room_1.cells ∧ n ≤ room_1.slots) (h : Inv σ) (kk : ∀ τ : Mem, Inv τ → JW E n0 p l e room_1 s m args below meth c Qf 4 k n 1363 (lvL E b x) [] τ) : JW E n0 p l e room_1 s m args below meth c Qf 4 k n 642 (lvL E b x) [] σ := by
  refine w_aload C 1 dL_law_642 rfl 2 rfl ?_
  refine w_callI (As := []) (rest := []) C 0 (c_X5_again (g_again h)) (cwV 0 C.2.2.2.2.2.1 gL_law_X5_again rfl rfl rfl hdX5_again ⟨Nat.le_of_ble_eq_true rfl, Nat.le_of_ble_eq_true rfl⟩) rfl rfl rfl rfl (Nat.le_of_ble_eq_true rfl) hk dL_law_643 (fun r τ h1 => ?_)
  refine w_aload C 2 dL_law_646 rfl 1 rfl ?_
  refine w_callI (As := []) (rest := [.int r]) C 64 (c_X6_again h1) (cwV 0 C.2.2.2.2.2.1 gL_law_X6_again rfl rfl rfl hdX6_again ⟨Nat.le_of_ble_eq_true rfl, Nat.le_of_ble_eq_true rfl⟩) rfl rfl rfl rfl (Nat.le_of_ble_eq_true rfl) hk dL_law_647 (fun r1 τ1 h2 => ?_)
  obtain ⟨e9, hI⟩ := h2
  subst e9
  exact w_icmp_eq C 1363 dL_law_650 (by decide) (fun _ => kk τ1 hI) (fun h9 => absurd rfl h9)
set_option maxHeartbeats 4000000 in
set_option maxRecDepth 100000 in
theorem ca_ruins (C : CxW E n0 p s m args meth c RL wsL_law cL_law 4 ret) (hX : va_X b L xs s s.heap) (hbl : b < n0) (hin : ∀ j : Int, 1 ≤ j → j ≤ 4 → vp_in (x + Int32.ofInt j) L) (hk : k ≤ room_1.cells ∧ n ≤ room_1.slots) (h : Inv σ) (kk : ∀ τ : Mem, Inv τ → JW E n0 p l e room_1 s m args below meth c Qf 4 k n 1363 (lvL E b x) [] τ) : JW E n0 p l e room_1 s m args below meth c Qf 4 k n 655 (lvL E b x) [] σ := by
  refine w_aload C 1 dL_law_655 rfl 2 rfl ?_
  refine w_callI (As := []) (rest := []) C 0 (c_X5_ruins (g_ruins h)) (cwV 0 C.2.2.2.2.2.1 gL_law_X5_ruins rfl rfl rfl hdX5_ruins ⟨Nat.le_of_ble_eq_true rfl, Nat.le_of_ble_eq_true rfl⟩) rfl rfl rfl rfl (Nat.le_of_ble_eq_true rfl) hk dL_law_656 (fun r τ h1 => ?_)
  refine w_aload C 2 dL_law_659 rfl 1 rfl ?_
  refine w_callI (As := []) (rest := [.int r]) C 64 (c_X6_ruins h1) (cwV 0 C.2.2.2.2.2.1 gL_law_X6_ruins rfl rfl rfl hdX6_ruins ⟨Nat.le_of_ble_eq_true rfl, Nat.le_of_ble_eq_true rfl⟩) rfl rfl rfl rfl (Nat.le_of_ble_eq_true rfl) hk dL_law_660 (fun r1 τ1 h2 => ?_)
  obtain ⟨e9, hI⟩ := h2
  subst e9
  exact w_icmp_eq C 1363 dL_law_663 (by decide) (fun _ => kk τ1 hI) (fun h9 => absurd rfl h9)
set_option maxHeartbeats 4000000 in
set_option maxRecDepth 100000 in
theorem ca_need (C : CxW E n0 p s m args meth c RL wsL_law cL_law 4 ret) (hX : va_X b L xs s s.heap) (hbl : b < n0) (hin : ∀ j : Int, 1 ≤ j → j ≤ 4 → vp_in (x + Int32.ofInt j) L) (hk : k ≤ room_1.cells ∧ n ≤ room_1.slots) (h : Inv σ) (kk : ∀ τ : Mem, Inv τ → JW E n0 p l e room_1 s m args below meth c Qf 4 k n 1363 (lvL E b x) [] τ) : JW E n0 p l e room_1 s m args below meth c Qf 4 k n 668 (lvL E b x) [] σ := by
  refine w_aload C 1 dL_law_668 rfl 2 rfl ?_
  refine w_arg C hX hbl dL_law_669 dL_law_670 dL_law_671 dL_law_672 dL_law_673 (hin 1 (by decide) (by decide)) ?_
  refine w_callI (As := [.int (xs (x + Int32.ofInt 1).toNatClampNeg)]) (rest := []) C 0 (c_X5_need (g_need h)) (cwV 1 C.2.2.2.2.2.1 gL_law_X5_need rfl rfl rfl hdX5_need ⟨Nat.le_of_ble_eq_true rfl, Nat.le_of_ble_eq_true rfl⟩) rfl rfl rfl rfl (Nat.le_of_ble_eq_true rfl) hk dL_law_674 (fun r τ h1 => ?_)
  refine w_aload C 2 dL_law_677 rfl 1 rfl ?_
  refine w_arg C hX hbl dL_law_678 dL_law_679 dL_law_680 dL_law_681 dL_law_682 (hin 1 (by decide) (by decide)) ?_
  refine w_callI (As := [.int (xs (x + Int32.ofInt 1).toNatClampNeg)]) (rest := [.int r]) C 64 (c_X6_need h1) (cwV 1 C.2.2.2.2.2.1 gL_law_X6_need rfl rfl rfl hdX6_need ⟨Nat.le_of_ble_eq_true rfl, Nat.le_of_ble_eq_true rfl⟩) rfl rfl rfl rfl (Nat.le_of_ble_eq_true rfl) hk dL_law_683 (fun r1 τ1 h2 => ?_)
  obtain ⟨e9, hI⟩ := h2
  subst e9
  exact w_icmp_eq C 1363 dL_law_686 (by decide) (fun _ => kk τ1 hI) (fun h9 => absurd rfl h9)
set_option maxHeartbeats 4000000 in
set_option maxRecDepth 100000 in
theorem ca_order (C : CxW E n0 p s m args meth c RL wsL_law cL_law 4 ret) (hX : va_X b L xs s s.heap) (hbl : b < n0) (hin : ∀ j : Int, 1 ≤ j → j ≤ 4 → vp_in (x + Int32.ofInt j) L) (hk : k ≤ room_1.cells ∧ n ≤ room_1.slots) (h : Inv σ) (kk : ∀ τ : Mem, Inv τ → JW E n0 p l e room_1 s m args below meth c Qf 4 k n 1363 (lvL E b x) [] τ) : JW E n0 p l e room_1 s m args below meth c Qf 4 k n 691 (lvL E b x) [] σ := by
  refine w_aload C 1 dL_law_691 rfl 2 rfl ?_
  refine w_arg C hX hbl dL_law_692 dL_law_693 dL_law_694 dL_law_695 dL_law_696 (hin 1 (by decide) (by decide)) ?_
  refine w_arg C hX hbl dL_law_697 dL_law_698 dL_law_699 dL_law_700 dL_law_701 (hin 2 (by decide) (by decide)) ?_
  refine w_callI (As := [.int (xs (x + Int32.ofInt 1).toNatClampNeg), .int (xs (x + Int32.ofInt 2).toNatClampNeg)]) (rest := []) C 0 (c_X5_order (g_order h)) (cwV 2 C.2.2.2.2.2.1 gL_law_X5_order rfl rfl rfl hdX5_order ⟨Nat.le_of_ble_eq_true rfl, Nat.le_of_ble_eq_true rfl⟩) rfl rfl rfl rfl (Nat.le_of_ble_eq_true rfl) hk dL_law_702 (fun r τ h1 => ?_)
  refine w_aload C 2 dL_law_705 rfl 1 rfl ?_
  refine w_arg C hX hbl dL_law_706 dL_law_707 dL_law_708 dL_law_709 dL_law_710 (hin 1 (by decide) (by decide)) ?_
  refine w_arg C hX hbl dL_law_711 dL_law_712 dL_law_713 dL_law_714 dL_law_715 (hin 2 (by decide) (by decide)) ?_
  refine w_callI (As := [.int (xs (x + Int32.ofInt 1).toNatClampNeg), .int (xs (x + Int32.ofInt 2).toNatClampNeg)]) (rest := [.int r]) C 64 (c_X6_order h1) (cwV 2 C.2.2.2.2.2.1 gL_law_X6_order rfl rfl rfl hdX6_order ⟨Nat.le_of_ble_eq_true rfl, Nat.le_of_ble_eq_true rfl⟩) rfl rfl rfl rfl (Nat.le_of_ble_eq_true rfl) hk dL_law_716 (fun r1 τ1 h2 => ?_)
  obtain ⟨e9, hI⟩ := h2
  subst e9
  exact w_icmp_eq C 1363 dL_law_719 (by decide) (fun _ => kk τ1 hI) (fun h9 => absurd rfl h9)
set_option maxHeartbeats 4000000 in
set_option maxRecDepth 100000 in
theorem ca_stool (C : CxW E n0 p s m args meth c RL wsL_law cL_law 4 ret) (hX : va_X b L xs s s.heap) (hbl : b < n0) (hin : ∀ j : Int, 1 ≤ j → j ≤ 4 → vp_in (x + Int32.ofInt j) L) (hk : k ≤ room_1.cells ∧ n ≤ room_1.slots) (h : Inv σ) (kk : ∀ τ : Mem, Inv τ → JW E n0 p l e room_1 s m args below meth c Qf 4 k n 1363 (lvL E b x) [] τ) : JW E n0 p l e room_1 s m args below meth c Qf 4 k n 724 (lvL E b x) [] σ := by
  refine w_aload C 1 dL_law_724 rfl 2 rfl ?_
  refine w_arg C hX hbl dL_law_725 dL_law_726 dL_law_727 dL_law_728 dL_law_729 (hin 1 (by decide) (by decide)) ?_
  refine w_arg C hX hbl dL_law_730 dL_law_731 dL_law_732 dL_law_733 dL_law_734 (hin 2 (by decide) (by decide)) ?_
  refine w_callI (As := [.int (xs (x + Int32.ofInt 1).toNatClampNeg), .int (xs (x + Int32.ofInt 2).toNatClampNeg)]) (rest := []) C 0 (c_X5_stool (g_stool h)) (cwV 2 C.2.2.2.2.2.1 gL_law_X5_stool rfl rfl rfl hdX5_stool ⟨Nat.le_of_ble_eq_true rfl, Nat.le_of_ble_eq_true rfl⟩) rfl rfl rfl rfl (Nat.le_of_ble_eq_true rfl) hk dL_law_735 (fun r τ h1 => ?_)
  refine w_aload C 2 dL_law_738 rfl 1 rfl ?_
  refine w_arg C hX hbl dL_law_739 dL_law_740 dL_law_741 dL_law_742 dL_law_743 (hin 1 (by decide) (by decide)) ?_
  refine w_arg C hX hbl dL_law_744 dL_law_745 dL_law_746 dL_law_747 dL_law_748 (hin 2 (by decide) (by decide)) ?_
  refine w_callI (As := [.int (xs (x + Int32.ofInt 1).toNatClampNeg), .int (xs (x + Int32.ofInt 2).toNatClampNeg)]) (rest := [.int r]) C 64 (c_X6_stool h1) (cwV 2 C.2.2.2.2.2.1 gL_law_X6_stool rfl rfl rfl hdX6_stool ⟨Nat.le_of_ble_eq_true rfl, Nat.le_of_ble_eq_true rfl⟩) rfl rfl rfl rfl (Nat.le_of_ble_eq_true rfl) hk dL_law_749 (fun r1 τ1 h2 => ?_)
  obtain ⟨e9, hI⟩ := h2
  subst e9
  exact w_icmp_eq C 1363 dL_law_752 (by decide) (fun _ => kk τ1 hI) (fun h9 => absurd rfl h9)
set_option maxHeartbeats 4000000 in
set_option maxRecDepth 100000 in
theorem ca_term (C : CxW E n0 p s m args meth c RL wsL_law cL_law 4 ret) (hX : va_X b L xs s s.heap) (hbl : b < n0) (hin : ∀ j : Int, 1 ≤ j → j ≤ 4 → vp_in (x + Int32.ofInt j) L) (hk : k ≤ room_1.cells ∧ n ≤ room_1.slots) (h : Inv σ) (kk : ∀ τ : Mem, Inv τ → JW E n0 p l e room_1 s m args below meth c Qf 4 k n 1363 (lvL E b x) [] τ) : JW E n0 p l e room_1 s m args below meth c Qf 4 k n 757 (lvL E b x) [] σ := by
  refine w_aload C 1 dL_law_757 rfl 2 rfl ?_
  refine w_arg C hX hbl dL_law_758 dL_law_759 dL_law_760 dL_law_761 dL_law_762 (hin 1 (by decide) (by decide)) ?_
  refine w_arg C hX hbl dL_law_763 dL_law_764 dL_law_765 dL_law_766 dL_law_767 (hin 2 (by decide) (by decide)) ?_
  refine w_arg C hX hbl dL_law_768 dL_law_769 dL_law_770 dL_law_771 dL_law_772 (hin 3 (by decide) (by decide)) ?_
  refine w_callI (As := [.int (xs (x + Int32.ofInt 1).toNatClampNeg), .int (xs (x + Int32.ofInt 2).toNatClampNeg), .int (xs (x + Int32.ofInt 3).toNatClampNeg)]) (rest := []) C 0 (c_X5_term (g_term h)) (cwV 3 C.2.2.2.2.2.1 gL_law_X5_term rfl rfl rfl hdX5_term ⟨Nat.le_of_ble_eq_true rfl, Nat.le_of_ble_eq_true rfl⟩) rfl rfl rfl rfl (Nat.le_of_ble_eq_true rfl) hk dL_law_773 (fun r τ h1 => ?_)
  refine w_aload C 2 dL_law_776 rfl 1 rfl ?_
  refine w_arg C hX hbl dL_law_777 dL_law_778 dL_law_779 dL_law_780 dL_law_781 (hin 1 (by decide) (by decide)) ?_
  refine w_arg C hX hbl dL_law_782 dL_law_783 dL_law_784 dL_law_785 dL_law_786 (hin 2 (by decide) (by decide)) ?_
  refine w_arg C hX hbl dL_law_787 dL_law_788 dL_law_789 dL_law_790 dL_law_791 (hin 3 (by decide) (by decide)) ?_
  refine w_callI (As := [.int (xs (x + Int32.ofInt 1).toNatClampNeg), .int (xs (x + Int32.ofInt 2).toNatClampNeg), .int (xs (x + Int32.ofInt 3).toNatClampNeg)]) (rest := [.int r]) C 64 (c_X6_term h1) (cwV 3 C.2.2.2.2.2.1 gL_law_X6_term rfl rfl rfl hdX6_term ⟨Nat.le_of_ble_eq_true rfl, Nat.le_of_ble_eq_true rfl⟩) rfl rfl rfl rfl (Nat.le_of_ble_eq_true rfl) hk dL_law_792 (fun r1 τ1 h2 => ?_)
  obtain ⟨e9, hI⟩ := h2
  subst e9
  exact w_icmp_eq C 1363 dL_law_795 (by decide) (fun _ => kk τ1 hI) (fun h9 => absurd rfl h9)
set_option maxHeartbeats 4000000 in
set_option maxRecDepth 100000 in
theorem ca_ache (C : CxW E n0 p s m args meth c RL wsL_law cL_law 4 ret) (hX : va_X b L xs s s.heap) (hbl : b < n0) (hin : ∀ j : Int, 1 ≤ j → j ≤ 4 → vp_in (x + Int32.ofInt j) L) (hk : k ≤ room_1.cells ∧ n ≤ room_1.slots) (h : Inv σ) (kk : ∀ τ : Mem, Inv τ → JW E n0 p l e room_1 s m args below meth c Qf 4 k n 1363 (lvL E b x) [] τ) : JW E n0 p l e room_1 s m args below meth c Qf 4 k n 800 (lvL E b x) [] σ := by
  refine w_aload C 1 dL_law_800 rfl 2 rfl ?_
  refine w_arg C hX hbl dL_law_801 dL_law_802 dL_law_803 dL_law_804 dL_law_805 (hin 1 (by decide) (by decide)) ?_
  refine w_arg C hX hbl dL_law_806 dL_law_807 dL_law_808 dL_law_809 dL_law_810 (hin 2 (by decide) (by decide)) ?_
  refine w_callI (As := [.int (xs (x + Int32.ofInt 1).toNatClampNeg), .int (xs (x + Int32.ofInt 2).toNatClampNeg)]) (rest := []) C 0 (c_X5_ache (g_ache h)) (cwV 2 C.2.2.2.2.2.1 gL_law_X5_ache rfl rfl rfl hdX5_ache ⟨Nat.le_of_ble_eq_true rfl, Nat.le_of_ble_eq_true rfl⟩) rfl rfl rfl rfl (Nat.le_of_ble_eq_true rfl) hk dL_law_811 (fun r τ h1 => ?_)
  refine w_aload C 2 dL_law_814 rfl 1 rfl ?_
  refine w_arg C hX hbl dL_law_815 dL_law_816 dL_law_817 dL_law_818 dL_law_819 (hin 1 (by decide) (by decide)) ?_
  refine w_arg C hX hbl dL_law_820 dL_law_821 dL_law_822 dL_law_823 dL_law_824 (hin 2 (by decide) (by decide)) ?_
  refine w_callI (As := [.int (xs (x + Int32.ofInt 1).toNatClampNeg), .int (xs (x + Int32.ofInt 2).toNatClampNeg)]) (rest := [.int r]) C 64 (c_X6_ache h1) (cwV 2 C.2.2.2.2.2.1 gL_law_X6_ache rfl rfl rfl hdX6_ache ⟨Nat.le_of_ble_eq_true rfl, Nat.le_of_ble_eq_true rfl⟩) rfl rfl rfl rfl (Nat.le_of_ble_eq_true rfl) hk dL_law_825 (fun r1 τ1 h2 => ?_)
  obtain ⟨e9, hI⟩ := h2
  subst e9
  exact w_icmp_eq C 1363 dL_law_828 (by decide) (fun _ => kk τ1 hI) (fun h9 => absurd rfl h9)
set_option maxHeartbeats 4000000 in
set_option maxRecDepth 100000 in
theorem ca_builder (C : CxW E n0 p s m args meth c RL wsL_law cL_law 4 ret) (hX : va_X b L xs s s.heap) (hbl : b < n0) (hin : ∀ j : Int, 1 ≤ j → j ≤ 4 → vp_in (x + Int32.ofInt j) L) (hk : k ≤ room_1.cells ∧ n ≤ room_1.slots) (h : Inv σ) (kk : ∀ τ : Mem, Inv τ → JW E n0 p l e room_1 s m args below meth c Qf 4 k n 1363 (lvL E b x) [] τ) : JW E n0 p l e room_1 s m args below meth c Qf 4 k n 833 (lvL E b x) [] σ := by
  refine w_aload C 1 dL_law_833 rfl 2 rfl ?_
  refine w_arg C hX hbl dL_law_834 dL_law_835 dL_law_836 dL_law_837 dL_law_838 (hin 1 (by decide) (by decide)) ?_
  refine w_arg C hX hbl dL_law_839 dL_law_840 dL_law_841 dL_law_842 dL_law_843 (hin 2 (by decide) (by decide)) ?_
  refine w_callI (As := [.int (xs (x + Int32.ofInt 1).toNatClampNeg), .int (xs (x + Int32.ofInt 2).toNatClampNeg)]) (rest := []) C 0 (c_X5_builder (g_builder h)) (cwV 2 C.2.2.2.2.2.1 gL_law_X5_builder rfl rfl rfl hdX5_builder ⟨Nat.le_of_ble_eq_true rfl, Nat.le_of_ble_eq_true rfl⟩) rfl rfl rfl rfl (Nat.le_of_ble_eq_true rfl) hk dL_law_844 (fun r τ h1 => ?_)
  refine w_aload C 2 dL_law_847 rfl 1 rfl ?_
  refine w_arg C hX hbl dL_law_848 dL_law_849 dL_law_850 dL_law_851 dL_law_852 (hin 1 (by decide) (by decide)) ?_
  refine w_arg C hX hbl dL_law_853 dL_law_854 dL_law_855 dL_law_856 dL_law_857 (hin 2 (by decide) (by decide)) ?_
  refine w_callI (As := [.int (xs (x + Int32.ofInt 1).toNatClampNeg), .int (xs (x + Int32.ofInt 2).toNatClampNeg)]) (rest := [.int r]) C 64 (c_X6_builder h1) (cwV 2 C.2.2.2.2.2.1 gL_law_X6_builder rfl rfl rfl hdX6_builder ⟨Nat.le_of_ble_eq_true rfl, Nat.le_of_ble_eq_true rfl⟩) rfl rfl rfl rfl (Nat.le_of_ble_eq_true rfl) hk dL_law_858 (fun r1 τ1 h2 => ?_)
  obtain ⟨e9, hI⟩ := h2
  subst e9
  exact w_icmp_eq C 1363 dL_law_861 (by decide) (fun _ => kk τ1 hI) (fun h9 => absurd rfl h9)
set_option maxHeartbeats 4000000 in
set_option maxRecDepth 100000 in
theorem ca_luck (C : CxW E n0 p s m args meth c RL wsL_law cL_law 4 ret) (hX : va_X b L xs s s.heap) (hbl : b < n0) (hin : ∀ j : Int, 1 ≤ j → j ≤ 4 → vp_in (x + Int32.ofInt j) L) (hk : k ≤ room_1.cells ∧ n ≤ room_1.slots) (h : Inv σ) (kk : ∀ τ : Mem, Inv τ → JW E n0 p l e room_1 s m args below meth c Qf 4 k n 1363 (lvL E b x) [] τ) : JW E n0 p l e room_1 s m args below meth c Qf 4 k n 866 (lvL E b x) [] σ := by
  refine w_aload C 1 dL_law_866 rfl 2 rfl ?_
  refine w_arg C hX hbl dL_law_867 dL_law_868 dL_law_869 dL_law_870 dL_law_871 (hin 1 (by decide) (by decide)) ?_
  refine w_arg C hX hbl dL_law_872 dL_law_873 dL_law_874 dL_law_875 dL_law_876 (hin 2 (by decide) (by decide)) ?_
  refine w_arg C hX hbl dL_law_877 dL_law_878 dL_law_879 dL_law_880 dL_law_881 (hin 3 (by decide) (by decide)) ?_
  refine w_arg C hX hbl dL_law_882 dL_law_883 dL_law_884 dL_law_885 dL_law_886 (hin 4 (by decide) (by decide)) ?_
  refine w_callL (As := [.int (xs (x + Int32.ofInt 1).toNatClampNeg), .int (xs (x + Int32.ofInt 2).toNatClampNeg), .int (xs (x + Int32.ofInt 3).toNatClampNeg), .int (xs (x + Int32.ofInt 4).toNatClampNeg)]) (rest := []) C 0 (c_X5_luck (g_luck h)) (cwV 4 C.2.2.2.2.2.1 gL_law_X5_luck rfl rfl rfl hdX5_luck ⟨Nat.le_of_ble_eq_true rfl, Nat.le_of_ble_eq_true rfl⟩) rfl rfl rfl rfl (Nat.le_of_ble_eq_true rfl) hk dL_law_887 (fun r τ h1 => ?_)
  refine w_aload C 2 dL_law_890 rfl 1 rfl ?_
  refine w_arg C hX hbl dL_law_891 dL_law_892 dL_law_893 dL_law_894 dL_law_895 (hin 1 (by decide) (by decide)) ?_
  refine w_arg C hX hbl dL_law_896 dL_law_897 dL_law_898 dL_law_899 dL_law_900 (hin 2 (by decide) (by decide)) ?_
  refine w_arg C hX hbl dL_law_901 dL_law_902 dL_law_903 dL_law_904 dL_law_905 (hin 3 (by decide) (by decide)) ?_
  refine w_arg C hX hbl dL_law_906 dL_law_907 dL_law_908 dL_law_909 dL_law_910 (hin 4 (by decide) (by decide)) ?_
  refine w_callL (As := [.int (xs (x + Int32.ofInt 1).toNatClampNeg), .int (xs (x + Int32.ofInt 2).toNatClampNeg), .int (xs (x + Int32.ofInt 3).toNatClampNeg), .int (xs (x + Int32.ofInt 4).toNatClampNeg)]) (rest := [.long r]) C 64 (c_X6_luck h1) (cwV 4 C.2.2.2.2.2.1 gL_law_X6_luck rfl rfl rfl hdX6_luck ⟨Nat.le_of_ble_eq_true rfl, Nat.le_of_ble_eq_true rfl⟩) rfl rfl rfl rfl (Nat.le_of_ble_eq_true rfl) hk dL_law_911 (fun r1 τ1 h2 => ?_)
  obtain ⟨e9, hI⟩ := h2
  subst e9
  refine w_lcmp C dL_law_914 ?_
  exact w_if_eq C 1363 dL_law_915 (by decide) (fun _ => kk τ1 hI) (fun h9 => absurd ((lg_cmp_eq _ _).mpr rfl) h9)
set_option maxHeartbeats 4000000 in
set_option maxRecDepth 100000 in
theorem ca_mean (C : CxW E n0 p s m args meth c RL wsL_law cL_law 4 ret) (hX : va_X b L xs s s.heap) (hbl : b < n0) (hin : ∀ j : Int, 1 ≤ j → j ≤ 4 → vp_in (x + Int32.ofInt j) L) (hk : k ≤ room_1.cells ∧ n ≤ room_1.slots) (h : Inv σ) (kk : ∀ τ : Mem, Inv τ → JW E n0 p l e room_1 s m args below meth c Qf 4 k n 1363 (lvL E b x) [] τ) : JW E n0 p l e room_1 s m args below meth c Qf 4 k n 920 (lvL E b x) [] σ := by
  refine w_aload C 1 dL_law_920 rfl 2 rfl ?_
  refine w_arg C hX hbl dL_law_921 dL_law_922 dL_law_923 dL_law_924 dL_law_925 (hin 1 (by decide) (by decide)) ?_
  refine w_arg C hX hbl dL_law_926 dL_law_927 dL_law_928 dL_law_929 dL_law_930 (hin 2 (by decide) (by decide)) ?_
  refine w_arg C hX hbl dL_law_931 dL_law_932 dL_law_933 dL_law_934 dL_law_935 (hin 3 (by decide) (by decide)) ?_
  refine w_callL (As := [.int (xs (x + Int32.ofInt 1).toNatClampNeg), .int (xs (x + Int32.ofInt 2).toNatClampNeg), .int (xs (x + Int32.ofInt 3).toNatClampNeg)]) (rest := []) C 0 (c_X5_mean (g_mean h)) (cwV 3 C.2.2.2.2.2.1 gL_law_X5_mean rfl rfl rfl hdX5_mean ⟨Nat.le_of_ble_eq_true rfl, Nat.le_of_ble_eq_true rfl⟩) rfl rfl rfl rfl (Nat.le_of_ble_eq_true rfl) hk dL_law_936 (fun r τ h1 => ?_)
  refine w_aload C 2 dL_law_939 rfl 1 rfl ?_
  refine w_arg C hX hbl dL_law_940 dL_law_941 dL_law_942 dL_law_943 dL_law_944 (hin 1 (by decide) (by decide)) ?_
  refine w_arg C hX hbl dL_law_945 dL_law_946 dL_law_947 dL_law_948 dL_law_949 (hin 2 (by decide) (by decide)) ?_
  refine w_arg C hX hbl dL_law_950 dL_law_951 dL_law_952 dL_law_953 dL_law_954 (hin 3 (by decide) (by decide)) ?_
  refine w_callL (As := [.int (xs (x + Int32.ofInt 1).toNatClampNeg), .int (xs (x + Int32.ofInt 2).toNatClampNeg), .int (xs (x + Int32.ofInt 3).toNatClampNeg)]) (rest := [.long r]) C 64 (c_X6_mean h1) (cwV 3 C.2.2.2.2.2.1 gL_law_X6_mean rfl rfl rfl hdX6_mean ⟨Nat.le_of_ble_eq_true rfl, Nat.le_of_ble_eq_true rfl⟩) rfl rfl rfl rfl (Nat.le_of_ble_eq_true rfl) hk dL_law_955 (fun r1 τ1 h2 => ?_)
  obtain ⟨e9, hI⟩ := h2
  subst e9
  refine w_lcmp C dL_law_958 ?_
  exact w_if_eq C 1363 dL_law_959 (by decide) (fun _ => kk τ1 hI) (fun h9 => absurd ((lg_cmp_eq _ _).mpr rfl) h9)
end LAWC1
