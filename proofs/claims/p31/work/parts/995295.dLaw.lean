theorem dL_law_609 : decode cL_law 609 = .ok (.goto 34, 3) := by decide +kernel
theorem dL_law_612 : decode cL_law 612 = .ok (.iload 13, 2) := by decide +kernel
theorem dL_law_614 : decode cL_law 614 = .ok (.iconst 4, 1) := by decide +kernel
theorem dL_law_615 : decode cL_law 615 = .ok (.if_icmp .ne 16, 3) := by decide +kernel
theorem dL_law_618 : decode cL_law 618 = .ok (.iload 9, 2) := by decide +kernel
theorem dL_law_620 : decode cL_law 620 = .ok (.bipush 9, 2) := by decide +kernel
theorem dL_law_622 : decode cL_law 622 = .ok (.ishr, 1) := by decide +kernel
theorem dL_law_623 : decode cL_law 623 = .ok (.bipush 100, 2) := by decide +kernel
theorem dL_law_625 : decode cL_law 625 = .ok (.invokestatic 81, 3) := by decide +kernel
theorem dL_law_628 : decode cL_law 628 = .ok (.goto 15, 3) := by decide +kernel
theorem dL_law_631 : decode cL_law 631 = .ok (.iload 9, 2) := by decide +kernel
theorem dL_law_633 : decode cL_law 633 = .ok (.bipush 9, 2) := by decide +kernel
theorem dL_law_635 : decode cL_law 635 = .ok (.ishr, 1) := by decide +kernel
theorem dL_law_636 : decode cL_law 636 = .ok (.bipush 9, 2) := by decide +kernel
theorem dL_law_638 : decode cL_law 638 = .ok (.invokestatic 81, 3) := by decide +kernel
theorem dL_law_641 : decode cL_law 641 = .ok (.iconst 1, 1) := by decide +kernel
theorem dL_law_642 : decode cL_law 642 = .ok (.isub, 1) := by decide +kernel
theorem dL_law_643 : decode cL_law 643 = .ok (.istore 14, 2) := by decide +kernel
theorem dL_law_645 : decode cL_law 645 = .ok (.aload_n 1, 1) := by decide +kernel
theorem dL_law_646 : decode cL_law 646 = .ok (.iload 11, 2) := by decide +kernel
theorem dL_law_648 : decode cL_law 648 = .ok (.iload 13, 2) := by decide +kernel
theorem dL_law_650 : decode cL_law 650 = .ok (.iload 14, 2) := by decide +kernel
theorem dL_law_652 : decode cL_law 652 = .ok (.invokevirtual 102, 3) := by decide +kernel
theorem dL_law_655 : decode cL_law 655 = .ok (.aload_n 3, 1) := by decide +kernel
theorem dL_law_656 : decode cL_law 656 = .ok (.iload 12, 2) := by decide +kernel
theorem dL_law_658 : decode cL_law 658 = .ok (.iload 13, 2) := by decide +kernel
theorem dL_law_660 : decode cL_law 660 = .ok (.iadd, 1) := by decide +kernel
theorem dL_law_661 : decode cL_law 661 = .ok (.iaload, 1) := by decide +kernel
theorem dL_law_662 : decode cL_law 662 = .ok (.if_icmp .eq 5, 3) := by decide +kernel
theorem dL_law_665 : decode cL_law 665 = .ok (.iconst 0, 1) := by decide +kernel
theorem dL_law_666 : decode cL_law 666 = .ok (.ireturn, 1) := by decide +kernel
theorem dL_law_667 : decode cL_law 667 = .ok (.aload_n 3, 1) := by decide +kernel
theorem dL_law_668 : decode cL_law 668 = .ok (.iload 12, 2) := by decide +kernel
theorem dL_law_670 : decode cL_law 670 = .ok (.iload 13, 2) := by decide +kernel
theorem dL_law_672 : decode cL_law 672 = .ok (.iadd, 1) := by decide +kernel
theorem dL_law_673 : decode cL_law 673 = .ok (.iload 14, 2) := by decide +kernel
theorem dL_law_675 : decode cL_law 675 = .ok (.iastore, 1) := by decide +kernel
theorem dL_law_676 : decode cL_law 676 = .ok (.aload_n 1, 1) := by decide +kernel
theorem dL_law_677 : decode cL_law 677 = .ok (.aload_n 2, 1) := by decide +kernel
theorem dL_law_678 : decode cL_law 678 = .ok (.aload_n 3, 1) := by decide +kernel
theorem dL_law_679 : decode cL_law 679 = .ok (.aload 4, 2) := by decide +kernel
theorem dL_law_681 : decode cL_law 681 = .ok (.invokestatic 106, 3) := by decide +kernel
theorem dL_law_684 : decode cL_law 684 = .ok (.ifCond .eq 32, 3) := by decide +kernel
theorem dL_law_687 : decode cL_law 687 = .ok (.aload_n 1, 1) := by decide +kernel
theorem dL_law_688 : decode cL_law 688 = .ok (.iload 11, 2) := by decide +kernel
theorem dL_law_690 : decode cL_law 690 = .ok (.iload 9, 2) := by decide +kernel
theorem dL_law_692 : decode cL_law 692 = .ok (.bipush 16, 2) := by decide +kernel
theorem dL_law_694 : decode cL_law 694 = .ok (.ishr, 1) := by decide +kernel
theorem dL_law_695 : decode cL_law 695 = .ok (.bipush 6, 2) := by decide +kernel
theorem dL_law_697 : decode cL_law 697 = .ok (.invokestatic 81, 3) := by decide +kernel
theorem dL_law_700 : decode cL_law 700 = .ok (.aload_n 2, 1) := by decide +kernel
theorem dL_law_701 : decode cL_law 701 = .ok (.aload_n 3, 1) := by decide +kernel
theorem dL_law_702 : decode cL_law 702 = .ok (.aload 4, 2) := by decide +kernel
theorem dL_law_704 : decode cL_law 704 = .ok (.aload 5, 2) := by decide +kernel
theorem dL_law_706 : decode cL_law 706 = .ok (.aload 6, 2) := by decide +kernel
theorem dL_law_708 : decode cL_law 708 = .ok (.aload 7, 2) := by decide +kernel
theorem dL_law_710 : decode cL_law 710 = .ok (.invokestatic 110, 3) := by decide +kernel
theorem dL_law_713 : decode cL_law 713 = .ok (.ifCond .ne 5, 3) := by decide +kernel
theorem dL_law_716 : decode cL_law 716 = .ok (.iconst 0, 1) := by decide +kernel
theorem dL_law_717 : decode cL_law 717 = .ok (.ireturn, 1) := by decide +kernel
theorem dL_law_718 : decode cL_law 718 = .ok (.iinc 8 1, 3) := by decide +kernel
theorem dL_law_721 : decode cL_law 721 = .ok (.goto (-422), 3) := by decide +kernel
theorem dL_law_724 : decode cL_law 724 = .ok (.iconst 1, 1) := by decide +kernel
theorem dL_law_725 : decode cL_law 725 = .ok (.ireturn, 1) := by decide +kernel

