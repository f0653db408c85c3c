/-! The law, further cases. -/
theorem c_list {L i : Nat} {xs : Nat → Int32} {h : zH} {σ : Nat → Nat → Int32} {ρ : Nat → Nat → Option Nat} {Q : zR → Prop} (hI : z_I (.inl (.array .int, L, .inl xs)) h σ ρ) (hi : i + 6 ≤ L) (hL : L ≤ 3072) (kk : ∀ h2 σ2 ρ2, z_I (.inl (.array .int, L, .inl xs)) h2 σ2 ρ2 → h2.2.1 ≤ h.2.1 + 4 → h2.2.2 ≤ h.2.2 + 50 → z_E 1000 115 929 [some (.ref 0), some (.ref 1), some (.ref 18), some (.int (nI i))] [] (z_G h2 σ2 ρ2) Q) :
    z_E 1000 115 524 [some (.ref 0), some (.ref 1), some (.ref 18), some (.int (nI i))] [] (z_G h σ ρ) Q := by
  have hX0 : (z_G h σ ρ).1 0 = some (.inl (.array .int, L, .inl xs)) := by
    obtain ⟨nD, dm, ns, hC, hD, hS, hT, hF⟩ := hI
    exact hF.2.1
  have v1 : vp_in (nI i + 1) L := z_vin 1 (by omega) hL
  have v2 : vp_in (nI i + 2) L := z_vin 2 (by omega) hL
  have v3 : vp_in (nI i + 3) L := z_vin 3 (by omega) hL
  have v4 : vp_in (nI i + 4) L := z_vin 4 (by omega) hL
  have v5 : vp_in (nI i + 5) L := z_vin 5 (by omega) hL
  refine e_aload k115_524 (q := 525) rfl rfl ?_
  refine e_aload k115_525 (q := 526) rfl rfl ?_
  refine e_iload k115_526 (q := 527) rfl rfl ?_
  refine e_const k115_527 (q := 528) rfl ?_
  refine e_ib k115_528 (q := 529) rfl ?_
  refine e_ald k115_529 (q := 530) rfl hX0 v1 ?_
  refine e_i1 k115_530 (q := 531) rfl ?_
  refine g_cv k115_531 (q := 534) (as := [_]) rfl rfl rfl rfl (s_list hI _) rfl (z_ki fun x531 h531 p531 => ?_)
  obtain ⟨⟨hX1, fs1, h18⟩, hm⟩ := p531
  refine e_aload k115_534 (q := 535) rfl rfl ?_
  refine e_aload k115_535 (q := 536) rfl rfl ?_
  refine e_iload k115_536 (q := 537) rfl rfl ?_
  refine e_const k115_537 (q := 538) rfl ?_
  refine e_ib k115_538 (q := 539) rfl ?_
  refine e_ald k115_539 (q := 540) rfl hX1 v1 ?_
  refine e_i1 k115_540 (q := 541) rfl ?_
  refine e_cv k115_541 (as := [_]) rfl rfl h18 (Nat.le_of_ble_eq_true rfl) hm (q := 544) rfl (z_ki fun x541 h541 p541 => ?_)
  obtain ⟨rfl, h2, σ2, ρ2, rfl, hI2, r1, r2⟩ := p541
  refine e_ic k115_544 (q := 547) rfl (fun c544 => ?_) (fun c544 => absurd rfl c544)
  exact kk h2 σ2 ρ2 hI2 r1 r2
theorem c_clear {L i : Nat} {xs : Nat → Int32} {h : zH} {σ : Nat → Nat → Int32} {ρ : Nat → Nat → Option Nat} {Q : zR → Prop} (hI : z_I (.inl (.array .int, L, .inl xs)) h σ ρ) (hi : i + 6 ≤ L) (hL : L ≤ 3072) (kk : ∀ h2 σ2 ρ2, z_I (.inl (.array .int, L, .inl xs)) h2 σ2 ρ2 → h2.2.1 ≤ h.2.1 + 4 → h2.2.2 ≤ h.2.2 + 50 → z_E 1000 115 929 [some (.ref 0), some (.ref 1), some (.ref 18), some (.int (nI i))] [] (z_G h2 σ2 ρ2) Q) :
    z_E 1000 115 549 [some (.ref 0), some (.ref 1), some (.ref 18), some (.int (nI i))] [] (z_G h σ ρ) Q := by
  have hX0 : (z_G h σ ρ).1 0 = some (.inl (.array .int, L, .inl xs)) := by
    obtain ⟨nD, dm, ns, hC, hD, hS, hT, hF⟩ := hI
    exact hF.2.1
  have v1 : vp_in (nI i + 1) L := z_vin 1 (by omega) hL
  have v2 : vp_in (nI i + 2) L := z_vin 2 (by omega) hL
  have v3 : vp_in (nI i + 3) L := z_vin 3 (by omega) hL
  have v4 : vp_in (nI i + 4) L := z_vin 4 (by omega) hL
  have v5 : vp_in (nI i + 5) L := z_vin 5 (by omega) hL
  refine e_aload k115_549 (q := 550) rfl rfl ?_
  refine g_cv k115_550 (q := 553) (as := []) rfl rfl rfl rfl (s_clear hI ) rfl (z_kv fun h550 p550 => ?_)
  obtain ⟨⟨hX1, fs1, h18⟩, hm⟩ := p550
  refine e_aload k115_553 (q := 554) rfl rfl ?_
  refine e_cv k115_554 (as := []) rfl rfl h18 (Nat.le_of_ble_eq_true rfl) hm (q := 557) rfl (z_kv fun h554 p554 => ?_)
  obtain ⟨h2, σ2, ρ2, rfl, hI2, r1, r2⟩ := p554
  refine e_goto k115_557 ?_
  exact kk h2 σ2 ρ2 hI2 r1 r2
theorem c_fields {L i : Nat} {xs : Nat → Int32} {h : zH} {σ : Nat → Nat → Int32} {ρ : Nat → Nat → Option Nat} {Q : zR → Prop} (hI : z_I (.inl (.array .int, L, .inl xs)) h σ ρ) (hi : i + 6 ≤ L) (hL : L ≤ 3072) (kk : ∀ h2 σ2 ρ2, z_I (.inl (.array .int, L, .inl xs)) h2 σ2 ρ2 → h2.2.1 ≤ h.2.1 + 4 → h2.2.2 ≤ h.2.2 + 50 → z_E 1000 115 929 [some (.ref 0), some (.ref 1), some (.ref 18), some (.int (nI i))] [] (z_G h2 σ2 ρ2) Q) :
    z_E 1000 115 560 [some (.ref 0), some (.ref 1), some (.ref 18), some (.int (nI i))] [] (z_G h σ ρ) Q := by
  have hX0 : (z_G h σ ρ).1 0 = some (.inl (.array .int, L, .inl xs)) := by
    obtain ⟨nD, dm, ns, hC, hD, hS, hT, hF⟩ := hI
    exact hF.2.1
  have v1 : vp_in (nI i + 1) L := z_vin 1 (by omega) hL
  have v2 : vp_in (nI i + 2) L := z_vin 2 (by omega) hL
  have v3 : vp_in (nI i + 3) L := z_vin 3 (by omega) hL
  have v4 : vp_in (nI i + 4) L := z_vin 4 (by omega) hL
  have v5 : vp_in (nI i + 5) L := z_vin 5 (by omega) hL
  refine e_aload k115_560 (q := 561) rfl rfl ?_
  refine g_cv k115_561 (q := 564) (as := []) rfl rfl rfl rfl (s_fields hI ) rfl (z_ki fun x561 h561 p561 => ?_)
  obtain ⟨⟨hX1, fs1, h18⟩, hm⟩ := p561
  refine e_aload k115_564 (q := 565) rfl rfl ?_
  refine e_cv k115_565 (as := []) rfl rfl h18 (Nat.le_of_ble_eq_true rfl) hm (q := 568) rfl (z_ki fun x565 h565 p565 => ?_)
  obtain ⟨rfl, h2, σ2, ρ2, rfl, hI2, r1, r2⟩ := p565
  refine e_ic k115_568 (q := 571) rfl (fun c568 => ?_) (fun c568 => absurd rfl c568)
  exact kk h2 σ2 ρ2 hI2 r1 r2
theorem c_length {L i : Nat} {xs : Nat → Int32} {h : zH} {σ : Nat → Nat → Int32} {ρ : Nat → Nat → Option Nat} {Q : zR → Prop} (hI : z_I (.inl (.array .int, L, .inl xs)) h σ ρ) (hi : i + 6 ≤ L) (hL : L ≤ 3072) (kk : ∀ h2 σ2 ρ2, z_I (.inl (.array .int, L, .inl xs)) h2 σ2 ρ2 → h2.2.1 ≤ h.2.1 + 4 → h2.2.2 ≤ h.2.2 + 50 → z_E 1000 115 929 [some (.ref 0), some (.ref 1), some (.ref 18), some (.int (nI i))] [] (z_G h2 σ2 ρ2) Q) :
    z_E 1000 115 573 [some (.ref 0), some (.ref 1), some (.ref 18), some (.int (nI i))] [] (z_G h σ ρ) Q := by
  have hX0 : (z_G h σ ρ).1 0 = some (.inl (.array .int, L, .inl xs)) := by
    obtain ⟨nD, dm, ns, hC, hD, hS, hT, hF⟩ := hI
    exact hF.2.1
  have v1 : vp_in (nI i + 1) L := z_vin 1 (by omega) hL
  have v2 : vp_in (nI i + 2) L := z_vin 2 (by omega) hL
  have v3 : vp_in (nI i + 3) L := z_vin 3 (by omega) hL
  have v4 : vp_in (nI i + 4) L := z_vin 4 (by omega) hL
  have v5 : vp_in (nI i + 5) L := z_vin 5 (by omega) hL
  refine e_aload k115_573 (q := 574) rfl rfl ?_
  refine e_aload k115_574 (q := 575) rfl rfl ?_
  refine e_iload k115_575 (q := 576) rfl rfl ?_
  refine e_const k115_576 (q := 577) rfl ?_
  refine e_ib k115_577 (q := 578) rfl ?_
  refine e_ald k115_578 (q := 579) rfl hX0 v1 ?_
  refine e_bool k115_579 rfl k115_582 rfl k115_583 k115_586 rfl ?_
  refine e_aload k115_587 (q := 588) rfl rfl ?_
  refine e_iload k115_588 (q := 589) rfl rfl ?_
  refine e_const k115_589 (q := 590) rfl ?_
  refine e_ib k115_590 (q := 591) rfl ?_
  refine e_ald k115_591 (q := 592) rfl hX0 v2 ?_
  refine e_bool k115_592 rfl k115_595 rfl k115_596 k115_599 rfl ?_
  refine g_cv k115_600 (q := 603) (as := [_, _]) rfl rfl rfl rfl (s_length hI _ _) rfl (z_ki fun x600 h600 p600 => ?_)
  obtain ⟨⟨hX1, fs1, h18⟩, hm⟩ := p600
  refine e_aload k115_603 (q := 604) rfl rfl ?_
  refine e_aload k115_604 (q := 605) rfl rfl ?_
  refine e_iload k115_605 (q := 606) rfl rfl ?_
  refine e_const k115_606 (q := 607) rfl ?_
  refine e_ib k115_607 (q := 608) rfl ?_
  refine e_ald k115_608 (q := 609) rfl hX1 v1 ?_
  refine e_bool k115_609 rfl k115_612 rfl k115_613 k115_616 rfl ?_
  refine e_aload k115_617 (q := 618) rfl rfl ?_
  refine e_iload k115_618 (q := 619) rfl rfl ?_
  refine e_const k115_619 (q := 620) rfl ?_
  refine e_ib k115_620 (q := 621) rfl ?_
  refine e_ald k115_621 (q := 622) rfl hX1 v2 ?_
  refine e_bool k115_622 rfl k115_625 rfl k115_626 k115_629 rfl ?_
  refine e_cv k115_630 (as := [_, _]) rfl rfl h18 (Nat.le_of_ble_eq_true rfl) hm (q := 633) rfl (z_ki fun x630 h630 p630 => ?_)
  obtain ⟨rfl, h2, σ2, ρ2, rfl, hI2, r1, r2⟩ := p630
  refine e_ic k115_633 (q := 636) rfl (fun c633 => ?_) (fun c633 => absurd rfl c633)
  exact kk h2 σ2 ρ2 hI2 r1 r2
theorem c_at {L i : Nat} {xs : Nat → Int32} {h : zH} {σ : Nat → Nat → Int32} {ρ : Nat → Nat → Option Nat} {Q : zR → Prop} (hI : z_I (.inl (.array .int, L, .inl xs)) h σ ρ) (hi : i + 6 ≤ L) (hL : L ≤ 3072) (kk : ∀ h2 σ2 ρ2, z_I (.inl (.array .int, L, .inl xs)) h2 σ2 ρ2 → h2.2.1 ≤ h.2.1 + 4 → h2.2.2 ≤ h.2.2 + 50 → z_E 1000 115 929 [some (.ref 0), some (.ref 1), some (.ref 18), some (.int (nI i))] [] (z_G h2 σ2 ρ2) Q) :
    z_E 1000 115 638 [some (.ref 0), some (.ref 1), some (.ref 18), some (.int (nI i))] [] (z_G h σ ρ) Q := by
  have hX0 : (z_G h σ ρ).1 0 = some (.inl (.array .int, L, .inl xs)) := by
    obtain ⟨nD, dm, ns, hC, hD, hS, hT, hF⟩ := hI
    exact hF.2.1
  have v1 : vp_in (nI i + 1) L := z_vin 1 (by omega) hL
  have v2 : vp_in (nI i + 2) L := z_vin 2 (by omega) hL
  have v3 : vp_in (nI i + 3) L := z_vin 3 (by omega) hL
  have v4 : vp_in (nI i + 4) L := z_vin 4 (by omega) hL
  have v5 : vp_in (nI i + 5) L := z_vin 5 (by omega) hL
  refine e_aload k115_638 (q := 639) rfl rfl ?_
  refine e_aload k115_639 (q := 640) rfl rfl ?_
  refine e_iload k115_640 (q := 641) rfl rfl ?_
  refine e_const k115_641 (q := 642) rfl ?_
  refine e_ib k115_642 (q := 643) rfl ?_
  refine e_ald k115_643 (q := 644) rfl hX0 v1 ?_
  refine e_bool k115_644 rfl k115_647 rfl k115_648 k115_651 rfl ?_
  refine e_aload k115_652 (q := 653) rfl rfl ?_
  refine e_iload k115_653 (q := 654) rfl rfl ?_
  refine e_const k115_654 (q := 655) rfl ?_
  refine e_ib k115_655 (q := 656) rfl ?_
  refine e_ald k115_656 (q := 657) rfl hX0 v2 ?_
  refine e_bool k115_657 rfl k115_660 rfl k115_661 k115_664 rfl ?_
  refine e_aload k115_665 (q := 666) rfl rfl ?_
  refine e_iload k115_666 (q := 667) rfl rfl ?_
  refine e_const k115_667 (q := 668) rfl ?_
  refine e_ib k115_668 (q := 669) rfl ?_
  refine e_ald k115_669 (q := 670) rfl hX0 v3 ?_
  refine g_cv k115_670 (q := 673) (as := [_, _, _]) rfl rfl rfl rfl (s_at hI _ _ _) rfl (z_ki fun x670 h670 p670 => ?_)
  obtain ⟨⟨hX1, fs1, h18⟩, hm⟩ := p670
  refine e_aload k115_673 (q := 674) rfl rfl ?_
  refine e_aload k115_674 (q := 675) rfl rfl ?_
  refine e_iload k115_675 (q := 676) rfl rfl ?_
  refine e_const k115_676 (q := 677) rfl ?_
  refine e_ib k115_677 (q := 678) rfl ?_
  refine e_ald k115_678 (q := 679) rfl hX1 v1 ?_
  refine e_bool k115_679 rfl k115_682 rfl k115_683 k115_686 rfl ?_
  refine e_aload k115_687 (q := 688) rfl rfl ?_
  refine e_iload k115_688 (q := 689) rfl rfl ?_
  refine e_const k115_689 (q := 690) rfl ?_
  refine e_ib k115_690 (q := 691) rfl ?_
  refine e_ald k115_691 (q := 692) rfl hX1 v2 ?_
  refine e_bool k115_692 rfl k115_695 rfl k115_696 k115_699 rfl ?_
  refine e_aload k115_700 (q := 701) rfl rfl ?_
  refine e_iload k115_701 (q := 702) rfl rfl ?_
  refine e_const k115_702 (q := 703) rfl ?_
  refine e_ib k115_703 (q := 704) rfl ?_
  refine e_ald k115_704 (q := 705) rfl hX1 v3 ?_
  refine e_cv k115_705 (as := [_, _, _]) rfl rfl h18 (Nat.le_of_ble_eq_true rfl) hm (q := 708) rfl (z_ki fun x705 h705 p705 => ?_)
  obtain ⟨rfl, h2, σ2, ρ2, rfl, hI2, r1, r2⟩ := p705
  refine e_ic k115_708 (q := 711) rfl (fun c708 => ?_) (fun c708 => absurd rfl c708)
  exact kk h2 σ2 ρ2 hI2 r1 r2
theorem c_digest {L i : Nat} {xs : Nat → Int32} {h : zH} {σ : Nat → Nat → Int32} {ρ : Nat → Nat → Option Nat} {Q : zR → Prop} (hI : z_I (.inl (.array .int, L, .inl xs)) h σ ρ) (hi : i + 6 ≤ L) (hL : L ≤ 3072) (kk : ∀ h2 σ2 ρ2, z_I (.inl (.array .int, L, .inl xs)) h2 σ2 ρ2 → h2.2.1 ≤ h.2.1 + 4 → h2.2.2 ≤ h.2.2 + 50 → z_E 1000 115 929 [some (.ref 0), some (.ref 1), some (.ref 18), some (.int (nI i))] [] (z_G h2 σ2 ρ2) Q) :
    z_E 1000 115 713 [some (.ref 0), some (.ref 1), some (.ref 18), some (.int (nI i))] [] (z_G h σ ρ) Q := by
  have hX0 : (z_G h σ ρ).1 0 = some (.inl (.array .int, L, .inl xs)) := by
    obtain ⟨nD, dm, ns, hC, hD, hS, hT, hF⟩ := hI
    exact hF.2.1
  have v1 : vp_in (nI i + 1) L := z_vin 1 (by omega) hL
  have v2 : vp_in (nI i + 2) L := z_vin 2 (by omega) hL
  have v3 : vp_in (nI i + 3) L := z_vin 3 (by omega) hL
  have v4 : vp_in (nI i + 4) L := z_vin 4 (by omega) hL
  have v5 : vp_in (nI i + 5) L := z_vin 5 (by omega) hL
  refine e_aload k115_713 (q := 714) rfl rfl ?_
  refine e_aload k115_714 (q := 715) rfl rfl ?_
  refine e_iload k115_715 (q := 716) rfl rfl ?_
  refine e_const k115_716 (q := 717) rfl ?_
  refine e_ib k115_717 (q := 718) rfl ?_
  refine e_ald k115_718 (q := 719) rfl hX0 v1 ?_
  refine e_bool k115_719 rfl k115_722 rfl k115_723 k115_726 rfl ?_
  refine e_aload k115_727 (q := 728) rfl rfl ?_
  refine e_iload k115_728 (q := 729) rfl rfl ?_
  refine e_const k115_729 (q := 730) rfl ?_
  refine e_ib k115_730 (q := 731) rfl ?_
  refine e_ald k115_731 (q := 732) rfl hX0 v2 ?_
  refine e_bool k115_732 rfl k115_735 rfl k115_736 k115_739 rfl ?_
  refine g_cv k115_740 (q := 743) (as := [_, _]) rfl rfl rfl rfl (s_digest hI _ _) rfl (z_ki fun x740 h740 p740 => ?_)
  obtain ⟨⟨hX1, fs1, h18⟩, hm⟩ := p740
  refine e_aload k115_743 (q := 744) rfl rfl ?_
  refine e_aload k115_744 (q := 745) rfl rfl ?_
  refine e_iload k115_745 (q := 746) rfl rfl ?_
  refine e_const k115_746 (q := 747) rfl ?_
  refine e_ib k115_747 (q := 748) rfl ?_
  refine e_ald k115_748 (q := 749) rfl hX1 v1 ?_
  refine e_bool k115_749 rfl k115_752 rfl k115_753 k115_756 rfl ?_
  refine e_aload k115_757 (q := 758) rfl rfl ?_
  refine e_iload k115_758 (q := 759) rfl rfl ?_
  refine e_const k115_759 (q := 760) rfl ?_
  refine e_ib k115_760 (q := 761) rfl ?_
  refine e_ald k115_761 (q := 762) rfl hX1 v2 ?_
  refine e_bool k115_762 rfl k115_765 rfl k115_766 k115_769 rfl ?_
  refine e_cv k115_770 (as := [_, _]) rfl rfl h18 (Nat.le_of_ble_eq_true rfl) hm (q := 773) rfl (z_ki fun x770 h770 p770 => ?_)
  obtain ⟨rfl, h2, σ2, ρ2, rfl, hI2, r1, r2⟩ := p770
  refine e_ic k115_773 (q := 776) rfl (fun c773 => ?_) (fun c773 => absurd rfl c773)
  exact kk h2 σ2 ρ2 hI2 r1 r2
theorem c_sign {L i : Nat} {xs : Nat → Int32} {h : zH} {σ : Nat → Nat → Int32} {ρ : Nat → Nat → Option Nat} {Q : zR → Prop} (hI : z_I (.inl (.array .int, L, .inl xs)) h σ ρ) (hi : i + 6 ≤ L) (hL : L ≤ 3072) (kk : ∀ h2 σ2 ρ2, z_I (.inl (.array .int, L, .inl xs)) h2 σ2 ρ2 → h2.2.1 ≤ h.2.1 + 4 → h2.2.2 ≤ h.2.2 + 50 → z_E 1000 115 929 [some (.ref 0), some (.ref 1), some (.ref 18), some (.int (nI i))] [] (z_G h2 σ2 ρ2) Q) :
    z_E 1000 115 778 [some (.ref 0), some (.ref 1), some (.ref 18), some (.int (nI i))] [] (z_G h σ ρ) Q := by
  have hX0 : (z_G h σ ρ).1 0 = some (.inl (.array .int, L, .inl xs)) := by
    obtain ⟨nD, dm, ns, hC, hD, hS, hT, hF⟩ := hI
    exact hF.2.1
  have v1 : vp_in (nI i + 1) L := z_vin 1 (by omega) hL
  have v2 : vp_in (nI i + 2) L := z_vin 2 (by omega) hL
  have v3 : vp_in (nI i + 3) L := z_vin 3 (by omega) hL
  have v4 : vp_in (nI i + 4) L := z_vin 4 (by omega) hL
  have v5 : vp_in (nI i + 5) L := z_vin 5 (by omega) hL
  refine e_aload k115_778 (q := 779) rfl rfl ?_
  refine e_aload k115_779 (q := 780) rfl rfl ?_
  refine e_iload k115_780 (q := 781) rfl rfl ?_
  refine e_const k115_781 (q := 782) rfl ?_
  refine e_ib k115_782 (q := 783) rfl ?_
  refine e_ald k115_783 (q := 784) rfl hX0 v1 ?_
  refine e_aload k115_784 (q := 785) rfl rfl ?_
  refine e_iload k115_785 (q := 786) rfl rfl ?_
  refine e_const k115_786 (q := 787) rfl ?_
  refine e_ib k115_787 (q := 788) rfl ?_
  refine e_ald k115_788 (q := 789) rfl hX0 v2 ?_
  refine e_bool k115_789 rfl k115_792 rfl k115_793 k115_796 rfl ?_
  refine e_aload k115_797 (q := 798) rfl rfl ?_
  refine e_iload k115_798 (q := 799) rfl rfl ?_
  refine e_const k115_799 (q := 800) rfl ?_
  refine e_ib k115_800 (q := 801) rfl ?_
  refine e_ald k115_801 (q := 802) rfl hX0 v3 ?_
  refine e_bool k115_802 rfl k115_805 rfl k115_806 k115_809 rfl ?_
  refine e_aload k115_810 (q := 811) rfl rfl ?_
  refine e_iload k115_811 (q := 812) rfl rfl ?_
  refine e_const k115_812 (q := 813) rfl ?_
  refine e_ib k115_813 (q := 814) rfl ?_
  refine e_ald k115_814 (q := 815) rfl hX0 v4 ?_
  refine g_cv k115_815 (q := 818) (as := [_, _, _, _]) rfl rfl rfl rfl (s_sign hI _ _ _ _) rfl (z_ki fun x815 h815 p815 => ?_)
  obtain ⟨⟨hX1, fs1, h18⟩, hm⟩ := p815
  refine e_aload k115_818 (q := 819) rfl rfl ?_
  refine e_aload k115_819 (q := 820) rfl rfl ?_
  refine e_iload k115_820 (q := 821) rfl rfl ?_
  refine e_const k115_821 (q := 822) rfl ?_
  refine e_ib k115_822 (q := 823) rfl ?_
  refine e_ald k115_823 (q := 824) rfl hX1 v1 ?_
  refine e_aload k115_824 (q := 825) rfl rfl ?_
  refine e_iload k115_825 (q := 826) rfl rfl ?_
  refine e_const k115_826 (q := 827) rfl ?_
  refine e_ib k115_827 (q := 828) rfl ?_
  refine e_ald k115_828 (q := 829) rfl hX1 v2 ?_
  refine e_bool k115_829 rfl k115_832 rfl k115_833 k115_836 rfl ?_
  refine e_aload k115_837 (q := 838) rfl rfl ?_
  refine e_iload k115_838 (q := 839) rfl rfl ?_
  refine e_const k115_839 (q := 840) rfl ?_
  refine e_ib k115_840 (q := 841) rfl ?_
  refine e_ald k115_841 (q := 842) rfl hX1 v3 ?_
  refine e_bool k115_842 rfl k115_845 rfl k115_846 k115_849 rfl ?_
  refine e_aload k115_850 (q := 851) rfl rfl ?_
  refine e_iload k115_851 (q := 852) rfl rfl ?_
  refine e_const k115_852 (q := 853) rfl ?_
  refine e_ib k115_853 (q := 854) rfl ?_
  refine e_ald k115_854 (q := 855) rfl hX1 v4 ?_
  refine e_cv k115_855 (as := [_, _, _, _]) rfl rfl h18 (Nat.le_of_ble_eq_true rfl) hm (q := 858) rfl (z_ki fun x855 h855 p855 => ?_)
  obtain ⟨rfl, h2, σ2, ρ2, rfl, hI2, r1, r2⟩ := p855
  refine e_ic k115_858 (q := 861) rfl (fun c858 => ?_) (fun c858 => absurd rfl c858)
  exact kk h2 σ2 ρ2 hI2 r1 r2
theorem c_holds {L i : Nat} {xs : Nat → Int32} {h : zH} {σ : Nat → Nat → Int32} {ρ : Nat → Nat → Option Nat} {Q : zR → Prop} (hI : z_I (.inl (.array .int, L, .inl xs)) h σ ρ) (hi : i + 6 ≤ L) (hL : L ≤ 3072) (kk : ∀ h2 σ2 ρ2, z_I (.inl (.array .int, L, .inl xs)) h2 σ2 ρ2 → h2.2.1 ≤ h.2.1 + 4 → h2.2.2 ≤ h.2.2 + 50 → z_E 1000 115 929 [some (.ref 0), some (.ref 1), some (.ref 18), some (.int (nI i))] [] (z_G h2 σ2 ρ2) Q) :
    z_E 1000 115 863 [some (.ref 0), some (.ref 1), some (.ref 18), some (.int (nI i))] [] (z_G h σ ρ) Q := by
  have hX0 : (z_G h σ ρ).1 0 = some (.inl (.array .int, L, .inl xs)) := by
    obtain ⟨nD, dm, ns, hC, hD, hS, hT, hF⟩ := hI
    exact hF.2.1
  have v1 : vp_in (nI i + 1) L := z_vin 1 (by omega) hL
  have v2 : vp_in (nI i + 2) L := z_vin 2 (by omega) hL
  have v3 : vp_in (nI i + 3) L := z_vin 3 (by omega) hL
  have v4 : vp_in (nI i + 4) L := z_vin 4 (by omega) hL
  have v5 : vp_in (nI i + 5) L := z_vin 5 (by omega) hL
  refine e_aload k115_863 (q := 864) rfl rfl ?_
  refine e_aload k115_864 (q := 865) rfl rfl ?_
  refine e_iload k115_865 (q := 866) rfl rfl ?_
  refine e_const k115_866 (q := 867) rfl ?_
  refine e_ib k115_867 (q := 868) rfl ?_
  refine e_ald k115_868 (q := 869) rfl hX0 v1 ?_
  refine g_cv k115_869 (q := 872) (as := [_]) rfl rfl rfl rfl (s_holds hI _) rfl (z_ki fun x869 h869 p869 => ?_)
  obtain ⟨⟨hX1, fs1, h18⟩, hm⟩ := p869
  refine e_aload k115_872 (q := 873) rfl rfl ?_
  refine e_aload k115_873 (q := 874) rfl rfl ?_
  refine e_iload k115_874 (q := 875) rfl rfl ?_
  refine e_const k115_875 (q := 876) rfl ?_
  refine e_ib k115_876 (q := 877) rfl ?_
  refine e_ald k115_877 (q := 878) rfl hX1 v1 ?_
  refine e_cv k115_878 (as := [_]) rfl rfl h18 (Nat.le_of_ble_eq_true rfl) hm (q := 881) rfl (z_ki fun x878 h878 p878 => ?_)
  obtain ⟨rfl, h2, σ2, ρ2, rfl, hI2, r1, r2⟩ := p878
  refine e_ic k115_881 (q := 884) rfl (fun c881 => ?_) (fun c881 => absurd rfl c881)
  exact kk h2 σ2 ρ2 hI2 r1 r2
theorem c_verdict {L i : Nat} {xs : Nat → Int32} {h : zH} {σ : Nat → Nat → Int32} {ρ : Nat → Nat → Option Nat} {Q : zR → Prop} (hI : z_I (.inl (.array .int, L, .inl xs)) h σ ρ) (hi : i + 6 ≤ L) (hL : L ≤ 3072) (kk : ∀ h2 σ2 ρ2, z_I (.inl (.array .int, L, .inl xs)) h2 σ2 ρ2 → h2.2.1 ≤ h.2.1 + 4 → h2.2.2 ≤ h.2.2 + 50 → z_E 1000 115 929 [some (.ref 0), some (.ref 1), some (.ref 18), some (.int (nI i))] [] (z_G h2 σ2 ρ2) Q) :
    z_E 1000 115 886 [some (.ref 0), some (.ref 1), some (.ref 18), some (.int (nI i))] [] (z_G h σ ρ) Q := by
  have hX0 : (z_G h σ ρ).1 0 = some (.inl (.array .int, L, .inl xs)) := by
    obtain ⟨nD, dm, ns, hC, hD, hS, hT, hF⟩ := hI
    exact hF.2.1
  have v1 : vp_in (nI i + 1) L := z_vin 1 (by omega) hL
  have v2 : vp_in (nI i + 2) L := z_vin 2 (by omega) hL
  have v3 : vp_in (nI i + 3) L := z_vin 3 (by omega) hL
  have v4 : vp_in (nI i + 4) L := z_vin 4 (by omega) hL
  have v5 : vp_in (nI i + 5) L := z_vin 5 (by omega) hL
  refine e_aload k115_886 (q := 887) rfl rfl ?_
  refine e_aload k115_887 (q := 888) rfl rfl ?_
  refine e_iload k115_888 (q := 889) rfl rfl ?_
  refine e_const k115_889 (q := 890) rfl ?_
  refine e_ib k115_890 (q := 891) rfl ?_
  refine e_ald k115_891 (q := 892) rfl hX0 v1 ?_
  refine e_aload k115_892 (q := 893) rfl rfl ?_
  refine e_iload k115_893 (q := 894) rfl rfl ?_
  refine e_const k115_894 (q := 895) rfl ?_
  refine e_ib k115_895 (q := 896) rfl ?_
  refine e_ald k115_896 (q := 897) rfl hX0 v2 ?_
  refine e_aload k115_897 (q := 898) rfl rfl ?_
  refine e_iload k115_898 (q := 899) rfl rfl ?_
  refine e_const k115_899 (q := 900) rfl ?_
  refine e_ib k115_900 (q := 901) rfl ?_
  refine e_ald k115_901 (q := 902) rfl hX0 v3 ?_
  refine g_cv k115_902 (q := 905) (as := [_, _, _]) rfl rfl rfl rfl (s_verdict hI _ _ _) rfl (z_ki fun x902 h902 p902 => ?_)
  obtain ⟨⟨hX1, fs1, h18⟩, hm⟩ := p902
  refine e_aload k115_905 (q := 906) rfl rfl ?_
  refine e_aload k115_906 (q := 907) rfl rfl ?_
  refine e_iload k115_907 (q := 908) rfl rfl ?_
  refine e_const k115_908 (q := 909) rfl ?_
  refine e_ib k115_909 (q := 910) rfl ?_
  refine e_ald k115_910 (q := 911) rfl hX1 v1 ?_
  refine e_aload k115_911 (q := 912) rfl rfl ?_
  refine e_iload k115_912 (q := 913) rfl rfl ?_
  refine e_const k115_913 (q := 914) rfl ?_
  refine e_ib k115_914 (q := 915) rfl ?_
  refine e_ald k115_915 (q := 916) rfl hX1 v2 ?_
  refine e_aload k115_916 (q := 917) rfl rfl ?_
  refine e_iload k115_917 (q := 918) rfl rfl ?_
  refine e_const k115_918 (q := 919) rfl ?_
  refine e_ib k115_919 (q := 920) rfl ?_
  refine e_ald k115_920 (q := 921) rfl hX1 v3 ?_
  refine e_cv k115_921 (as := [_, _, _]) rfl rfl h18 (Nat.le_of_ble_eq_true rfl) hm (q := 924) rfl (z_ki fun x921 h921 p921 => ?_)
  obtain ⟨rfl, h2, σ2, ρ2, rfl, hI2, r1, r2⟩ := p921
  refine e_ic k115_924 (q := 927) rfl (fun c924 => ?_) (fun c924 => absurd rfl c924)
  exact kk h2 σ2 ρ2 hI2 r1 r2
