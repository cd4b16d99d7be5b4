abbrev MO : Nat := 28
abbrev a_came : Nat := 29
abbrev a_kind : Nat := 30
abbrev a_parent : Nat := 31
abbrev a_place : Nat := 32
abbrev a_number : Nat := 33
abbrev a_name : Nat := 34
abbrev a_named : Nat := 35
abbrev a_items : Nat := 36
abbrev a_sort : Nat := 37
abbrev a_one : Nat := 38
abbrev a_two : Nat := 39
abbrev a_ruleBytes : Nat := 40
abbrev a_tape : Nat := 41
abbrev a_pieces : Nat := 42
abbrev a_item : Nat := 43
abbrev a_pieceSort : Nat := 44
abbrev a_pieceKind : Nat := 45
abbrev a_pieceNumber : Nat := 46
abbrev a_deep : Nat := 47
abbrev a_way : Nat := 48
abbrev a_thingOf : Nat := 49
abbrev a_madeFrom : Nat := 50
abbrev a_madeLong : Nat := 51
abbrev a_bytes : Nat := 52
abbrev a_handLong : Nat := 53
abbrev a_hand : Nat := 54
abbrev a_baseLong : Nat := 55
abbrev a_base : Nat := 56
abbrev a_clash : Nat := 57
abbrev a_useThing : Nat := 58
abbrev a_useItem : Nat := 59
abbrev a_useChild : Nat := 60
abbrev a_isLeft : Nat := 61
abbrev a_loneSort : Nat := 62
abbrev a_loneItem : Nat := 63
abbrev a_loneLong : Nat := 64
abbrev a_lone : Nat := 65
abbrev i_things : Nat := 768
abbrev i_comings : Nat := 770
abbrev i_fault : Nat := 782
abbrev i_faultPlace : Nat := 783
abbrev i_taped : Nat := 785
abbrev i_at : Nat := 786
abbrev i_read : Nat := 787
abbrev i_within : Nat := 788
abbrev i_written : Nat := 800
abbrev i_open : Nat := 810
abbrev i_uses : Nat := 811
abbrev i_full : Nat := 812
abbrev i_lones : Nat := 813
abbrev i_fallen : Nat := 818
abbrev i_placed : Nat := 819
def rfL : List (Nat × Nat × Nat × Nat) := [(769, 29, 13, 24), (771, 30, 13, 24), (772, 31, 13, 24), (773, 32, 13, 24), (774, 33, 13, 96), (775, 34, 13, 144), (776, 35, 13, 24), (777, 36, 13, 9), (778, 37, 13, 180), (779, 38, 13, 180), (780, 39, 13, 180), (781, 40, 13, 1080), (784, 41, 13, 120), (789, 42, 13, 2), (790, 43, 13, 500), (791, 44, 13, 500), (792, 45, 13, 500), (793, 46, 13, 500), (794, 47, 13, 500), (795, 48, 13, 6000), (796, 49, 13, 500), (797, 50, 13, 500), (798, 51, 13, 500), (799, 52, 13, 6000), (801, 53, 13, 500), (802, 54, 13, 30000), (803, 55, 13, 500), (804, 56, 13, 60000), (805, 57, 14, 500), (806, 58, 13, 6), (807, 59, 13, 6), (808, 60, 13, 6), (809, 61, 14, 6), (814, 62, 13, 30), (815, 63, 13, 30), (816, 64, 13, 30), (817, 65, 13, 1800)]
def Rf (h : aH) : Prop := hK h MO = 12 ∧ ∀ q ∈ rfL, hR h q.1 MO = some q.2.1 ∧ hK h q.2.1 = q.2.2.1 ∧ hL h q.2.1 = q.2.2.2
theorem Rf.of {h h' : aH} (r : Rf h) (e1 : hK h' = hK h) (e2 : hR h' = hR h) (e3 : hL h' = hL h) : Rf h' := by
  unfold Rf
  rw [e1, e2, e3]
  exact r
theorem rr_came {h : aH} (r : Rf h) : hR h 769 MO = some 29 := (r.2 (769, 29, 13, 24) (by decide)).1
theorem rk_came {h : aH} (r : Rf h) : hK h 29 = 13 := (r.2 (769, 29, 13, 24) (by decide)).2.1
theorem rl_came {h : aH} (r : Rf h) : hL h 29 = 24 := (r.2 (769, 29, 13, 24) (by decide)).2.2
theorem rr_kind {h : aH} (r : Rf h) : hR h 771 MO = some 30 := (r.2 (771, 30, 13, 24) (by decide)).1
theorem rk_kind {h : aH} (r : Rf h) : hK h 30 = 13 := (r.2 (771, 30, 13, 24) (by decide)).2.1
theorem rl_kind {h : aH} (r : Rf h) : hL h 30 = 24 := (r.2 (771, 30, 13, 24) (by decide)).2.2
theorem rr_parent {h : aH} (r : Rf h) : hR h 772 MO = some 31 := (r.2 (772, 31, 13, 24) (by decide)).1
theorem rk_parent {h : aH} (r : Rf h) : hK h 31 = 13 := (r.2 (772, 31, 13, 24) (by decide)).2.1
theorem rl_parent {h : aH} (r : Rf h) : hL h 31 = 24 := (r.2 (772, 31, 13, 24) (by decide)).2.2
theorem rr_place {h : aH} (r : Rf h) : hR h 773 MO = some 32 := (r.2 (773, 32, 13, 24) (by decide)).1
theorem rk_place {h : aH} (r : Rf h) : hK h 32 = 13 := (r.2 (773, 32, 13, 24) (by decide)).2.1
theorem rl_place {h : aH} (r : Rf h) : hL h 32 = 24 := (r.2 (773, 32, 13, 24) (by decide)).2.2
theorem rr_number {h : aH} (r : Rf h) : hR h 774 MO = some 33 := (r.2 (774, 33, 13, 96) (by decide)).1
theorem rk_number {h : aH} (r : Rf h) : hK h 33 = 13 := (r.2 (774, 33, 13, 96) (by decide)).2.1
theorem rl_number {h : aH} (r : Rf h) : hL h 33 = 96 := (r.2 (774, 33, 13, 96) (by decide)).2.2
theorem rr_name {h : aH} (r : Rf h) : hR h 775 MO = some 34 := (r.2 (775, 34, 13, 144) (by decide)).1
theorem rk_name {h : aH} (r : Rf h) : hK h 34 = 13 := (r.2 (775, 34, 13, 144) (by decide)).2.1
theorem rl_name {h : aH} (r : Rf h) : hL h 34 = 144 := (r.2 (775, 34, 13, 144) (by decide)).2.2
theorem rr_named {h : aH} (r : Rf h) : hR h 776 MO = some 35 := (r.2 (776, 35, 13, 24) (by decide)).1
theorem rk_named {h : aH} (r : Rf h) : hK h 35 = 13 := (r.2 (776, 35, 13, 24) (by decide)).2.1
theorem rl_named {h : aH} (r : Rf h) : hL h 35 = 24 := (r.2 (776, 35, 13, 24) (by decide)).2.2
theorem rr_items {h : aH} (r : Rf h) : hR h 777 MO = some 36 := (r.2 (777, 36, 13, 9) (by decide)).1
theorem rk_items {h : aH} (r : Rf h) : hK h 36 = 13 := (r.2 (777, 36, 13, 9) (by decide)).2.1
theorem rl_items {h : aH} (r : Rf h) : hL h 36 = 9 := (r.2 (777, 36, 13, 9) (by decide)).2.2
theorem rr_sort {h : aH} (r : Rf h) : hR h 778 MO = some 37 := (r.2 (778, 37, 13, 180) (by decide)).1
theorem rk_sort {h : aH} (r : Rf h) : hK h 37 = 13 := (r.2 (778, 37, 13, 180) (by decide)).2.1
theorem rl_sort {h : aH} (r : Rf h) : hL h 37 = 180 := (r.2 (778, 37, 13, 180) (by decide)).2.2
theorem rr_one {h : aH} (r : Rf h) : hR h 779 MO = some 38 := (r.2 (779, 38, 13, 180) (by decide)).1
theorem rk_one {h : aH} (r : Rf h) : hK h 38 = 13 := (r.2 (779, 38, 13, 180) (by decide)).2.1
theorem rl_one {h : aH} (r : Rf h) : hL h 38 = 180 := (r.2 (779, 38, 13, 180) (by decide)).2.2
theorem rr_two {h : aH} (r : Rf h) : hR h 780 MO = some 39 := (r.2 (780, 39, 13, 180) (by decide)).1
theorem rk_two {h : aH} (r : Rf h) : hK h 39 = 13 := (r.2 (780, 39, 13, 180) (by decide)).2.1
theorem rl_two {h : aH} (r : Rf h) : hL h 39 = 180 := (r.2 (780, 39, 13, 180) (by decide)).2.2
theorem rr_ruleBytes {h : aH} (r : Rf h) : hR h 781 MO = some 40 := (r.2 (781, 40, 13, 1080) (by decide)).1
theorem rk_ruleBytes {h : aH} (r : Rf h) : hK h 40 = 13 := (r.2 (781, 40, 13, 1080) (by decide)).2.1
theorem rl_ruleBytes {h : aH} (r : Rf h) : hL h 40 = 1080 := (r.2 (781, 40, 13, 1080) (by decide)).2.2
theorem rr_tape {h : aH} (r : Rf h) : hR h 784 MO = some 41 := (r.2 (784, 41, 13, 120) (by decide)).1
theorem rk_tape {h : aH} (r : Rf h) : hK h 41 = 13 := (r.2 (784, 41, 13, 120) (by decide)).2.1
theorem rl_tape {h : aH} (r : Rf h) : hL h 41 = 120 := (r.2 (784, 41, 13, 120) (by decide)).2.2
theorem rr_pieces {h : aH} (r : Rf h) : hR h 789 MO = some 42 := (r.2 (789, 42, 13, 2) (by decide)).1
theorem rk_pieces {h : aH} (r : Rf h) : hK h 42 = 13 := (r.2 (789, 42, 13, 2) (by decide)).2.1
theorem rl_pieces {h : aH} (r : Rf h) : hL h 42 = 2 := (r.2 (789, 42, 13, 2) (by decide)).2.2
theorem rr_item {h : aH} (r : Rf h) : hR h 790 MO = some 43 := (r.2 (790, 43, 13, 500) (by decide)).1
theorem rk_item {h : aH} (r : Rf h) : hK h 43 = 13 := (r.2 (790, 43, 13, 500) (by decide)).2.1
theorem rl_item {h : aH} (r : Rf h) : hL h 43 = 500 := (r.2 (790, 43, 13, 500) (by decide)).2.2
theorem rr_pieceSort {h : aH} (r : Rf h) : hR h 791 MO = some 44 := (r.2 (791, 44, 13, 500) (by decide)).1
theorem rk_pieceSort {h : aH} (r : Rf h) : hK h 44 = 13 := (r.2 (791, 44, 13, 500) (by decide)).2.1
theorem rl_pieceSort {h : aH} (r : Rf h) : hL h 44 = 500 := (r.2 (791, 44, 13, 500) (by decide)).2.2
theorem rr_pieceKind {h : aH} (r : Rf h) : hR h 792 MO = some 45 := (r.2 (792, 45, 13, 500) (by decide)).1
theorem rk_pieceKind {h : aH} (r : Rf h) : hK h 45 = 13 := (r.2 (792, 45, 13, 500) (by decide)).2.1
theorem rl_pieceKind {h : aH} (r : Rf h) : hL h 45 = 500 := (r.2 (792, 45, 13, 500) (by decide)).2.2
theorem rr_pieceNumber {h : aH} (r : Rf h) : hR h 793 MO = some 46 := (r.2 (793, 46, 13, 500) (by decide)).1
theorem rk_pieceNumber {h : aH} (r : Rf h) : hK h 46 = 13 := (r.2 (793, 46, 13, 500) (by decide)).2.1
theorem rl_pieceNumber {h : aH} (r : Rf h) : hL h 46 = 500 := (r.2 (793, 46, 13, 500) (by decide)).2.2
theorem rr_deep {h : aH} (r : Rf h) : hR h 794 MO = some 47 := (r.2 (794, 47, 13, 500) (by decide)).1
theorem rk_deep {h : aH} (r : Rf h) : hK h 47 = 13 := (r.2 (794, 47, 13, 500) (by decide)).2.1
theorem rl_deep {h : aH} (r : Rf h) : hL h 47 = 500 := (r.2 (794, 47, 13, 500) (by decide)).2.2
theorem rr_way {h : aH} (r : Rf h) : hR h 795 MO = some 48 := (r.2 (795, 48, 13, 6000) (by decide)).1
theorem rk_way {h : aH} (r : Rf h) : hK h 48 = 13 := (r.2 (795, 48, 13, 6000) (by decide)).2.1
theorem rl_way {h : aH} (r : Rf h) : hL h 48 = 6000 := (r.2 (795, 48, 13, 6000) (by decide)).2.2
theorem rr_thingOf {h : aH} (r : Rf h) : hR h 796 MO = some 49 := (r.2 (796, 49, 13, 500) (by decide)).1
theorem rk_thingOf {h : aH} (r : Rf h) : hK h 49 = 13 := (r.2 (796, 49, 13, 500) (by decide)).2.1
theorem rl_thingOf {h : aH} (r : Rf h) : hL h 49 = 500 := (r.2 (796, 49, 13, 500) (by decide)).2.2
theorem rr_madeFrom {h : aH} (r : Rf h) : hR h 797 MO = some 50 := (r.2 (797, 50, 13, 500) (by decide)).1
theorem rk_madeFrom {h : aH} (r : Rf h) : hK h 50 = 13 := (r.2 (797, 50, 13, 500) (by decide)).2.1
theorem rl_madeFrom {h : aH} (r : Rf h) : hL h 50 = 500 := (r.2 (797, 50, 13, 500) (by decide)).2.2
theorem rr_madeLong {h : aH} (r : Rf h) : hR h 798 MO = some 51 := (r.2 (798, 51, 13, 500) (by decide)).1
theorem rk_madeLong {h : aH} (r : Rf h) : hK h 51 = 13 := (r.2 (798, 51, 13, 500) (by decide)).2.1
theorem rl_madeLong {h : aH} (r : Rf h) : hL h 51 = 500 := (r.2 (798, 51, 13, 500) (by decide)).2.2
theorem rr_bytes {h : aH} (r : Rf h) : hR h 799 MO = some 52 := (r.2 (799, 52, 13, 6000) (by decide)).1
theorem rk_bytes {h : aH} (r : Rf h) : hK h 52 = 13 := (r.2 (799, 52, 13, 6000) (by decide)).2.1
theorem rl_bytes {h : aH} (r : Rf h) : hL h 52 = 6000 := (r.2 (799, 52, 13, 6000) (by decide)).2.2
theorem rr_handLong {h : aH} (r : Rf h) : hR h 801 MO = some 53 := (r.2 (801, 53, 13, 500) (by decide)).1
theorem rk_handLong {h : aH} (r : Rf h) : hK h 53 = 13 := (r.2 (801, 53, 13, 500) (by decide)).2.1
theorem rl_handLong {h : aH} (r : Rf h) : hL h 53 = 500 := (r.2 (801, 53, 13, 500) (by decide)).2.2
theorem rr_hand {h : aH} (r : Rf h) : hR h 802 MO = some 54 := (r.2 (802, 54, 13, 30000) (by decide)).1
theorem rk_hand {h : aH} (r : Rf h) : hK h 54 = 13 := (r.2 (802, 54, 13, 30000) (by decide)).2.1
theorem rl_hand {h : aH} (r : Rf h) : hL h 54 = 30000 := (r.2 (802, 54, 13, 30000) (by decide)).2.2
theorem rr_baseLong {h : aH} (r : Rf h) : hR h 803 MO = some 55 := (r.2 (803, 55, 13, 500) (by decide)).1
theorem rk_baseLong {h : aH} (r : Rf h) : hK h 55 = 13 := (r.2 (803, 55, 13, 500) (by decide)).2.1
theorem rl_baseLong {h : aH} (r : Rf h) : hL h 55 = 500 := (r.2 (803, 55, 13, 500) (by decide)).2.2
theorem rr_base {h : aH} (r : Rf h) : hR h 804 MO = some 56 := (r.2 (804, 56, 13, 60000) (by decide)).1
theorem rk_base {h : aH} (r : Rf h) : hK h 56 = 13 := (r.2 (804, 56, 13, 60000) (by decide)).2.1
theorem rl_base {h : aH} (r : Rf h) : hL h 56 = 60000 := (r.2 (804, 56, 13, 60000) (by decide)).2.2
theorem rr_clash {h : aH} (r : Rf h) : hR h 805 MO = some 57 := (r.2 (805, 57, 14, 500) (by decide)).1
theorem rk_clash {h : aH} (r : Rf h) : hK h 57 = 14 := (r.2 (805, 57, 14, 500) (by decide)).2.1
theorem rl_clash {h : aH} (r : Rf h) : hL h 57 = 500 := (r.2 (805, 57, 14, 500) (by decide)).2.2
theorem rr_useThing {h : aH} (r : Rf h) : hR h 806 MO = some 58 := (r.2 (806, 58, 13, 6) (by decide)).1
theorem rk_useThing {h : aH} (r : Rf h) : hK h 58 = 13 := (r.2 (806, 58, 13, 6) (by decide)).2.1
theorem rl_useThing {h : aH} (r : Rf h) : hL h 58 = 6 := (r.2 (806, 58, 13, 6) (by decide)).2.2
theorem rr_useItem {h : aH} (r : Rf h) : hR h 807 MO = some 59 := (r.2 (807, 59, 13, 6) (by decide)).1
theorem rk_useItem {h : aH} (r : Rf h) : hK h 59 = 13 := (r.2 (807, 59, 13, 6) (by decide)).2.1
theorem rl_useItem {h : aH} (r : Rf h) : hL h 59 = 6 := (r.2 (807, 59, 13, 6) (by decide)).2.2
theorem rr_useChild {h : aH} (r : Rf h) : hR h 808 MO = some 60 := (r.2 (808, 60, 13, 6) (by decide)).1
theorem rk_useChild {h : aH} (r : Rf h) : hK h 60 = 13 := (r.2 (808, 60, 13, 6) (by decide)).2.1
theorem rl_useChild {h : aH} (r : Rf h) : hL h 60 = 6 := (r.2 (808, 60, 13, 6) (by decide)).2.2
theorem rr_isLeft {h : aH} (r : Rf h) : hR h 809 MO = some 61 := (r.2 (809, 61, 14, 6) (by decide)).1
theorem rk_isLeft {h : aH} (r : Rf h) : hK h 61 = 14 := (r.2 (809, 61, 14, 6) (by decide)).2.1
theorem rl_isLeft {h : aH} (r : Rf h) : hL h 61 = 6 := (r.2 (809, 61, 14, 6) (by decide)).2.2
theorem rr_loneSort {h : aH} (r : Rf h) : hR h 814 MO = some 62 := (r.2 (814, 62, 13, 30) (by decide)).1
theorem rk_loneSort {h : aH} (r : Rf h) : hK h 62 = 13 := (r.2 (814, 62, 13, 30) (by decide)).2.1
theorem rl_loneSort {h : aH} (r : Rf h) : hL h 62 = 30 := (r.2 (814, 62, 13, 30) (by decide)).2.2
theorem rr_loneItem {h : aH} (r : Rf h) : hR h 815 MO = some 63 := (r.2 (815, 63, 13, 30) (by decide)).1
theorem rk_loneItem {h : aH} (r : Rf h) : hK h 63 = 13 := (r.2 (815, 63, 13, 30) (by decide)).2.1
theorem rl_loneItem {h : aH} (r : Rf h) : hL h 63 = 30 := (r.2 (815, 63, 13, 30) (by decide)).2.2
theorem rr_loneLong {h : aH} (r : Rf h) : hR h 816 MO = some 64 := (r.2 (816, 64, 13, 30) (by decide)).1
theorem rk_loneLong {h : aH} (r : Rf h) : hK h 64 = 13 := (r.2 (816, 64, 13, 30) (by decide)).2.1
theorem rl_loneLong {h : aH} (r : Rf h) : hL h 64 = 30 := (r.2 (816, 64, 13, 30) (by decide)).2.2
theorem rr_lone {h : aH} (r : Rf h) : hR h 817 MO = some 65 := (r.2 (817, 65, 13, 1800) (by decide)).1
theorem rk_lone {h : aH} (r : Rf h) : hK h 65 = 13 := (r.2 (817, 65, 13, 1800) (by decide)).2.1
theorem rl_lone {h : aH} (r : Rf h) : hL h 65 = 1800 := (r.2 (817, 65, 13, 1800) (by decide)).2.2
