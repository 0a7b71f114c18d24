theorem dL_law_624 : decode code 624 = .ok (.iconst 1, 1) := by decide +kernel
theorem dL_law_625 : decode code 625 = .ok (.iadd, 1) := by decide +kernel
theorem dL_law_626 : decode code 626 = .ok (.iaload, 1) := by decide +kernel
theorem dL_law_627 : decode code 627 = .ok (.aload_n 0, 1) := by decide +kernel
theorem dL_law_628 : decode code 628 = .ok (.iload_n 3, 1) := by decide +kernel
theorem dL_law_629 : decode code 629 = .ok (.iconst 2, 1) := by decide +kernel
theorem dL_law_630 : decode code 630 = .ok (.iadd, 1) := by decide +kernel
theorem dL_law_631 : decode code 631 = .ok (.iaload, 1) := by decide +kernel
theorem dL_law_632 : decode code 632 = .ok (.invokevirtual 75, 3) := by decide +kernel
theorem dL_law_635 : decode code 635 = .ok (.aload_n 2, 1) := by decide +kernel
theorem dL_law_636 : decode code 636 = .ok (.aload_n 0, 1) := by decide +kernel
theorem dL_law_637 : decode code 637 = .ok (.iload_n 3, 1) := by decide +kernel
theorem dL_law_638 : decode code 638 = .ok (.iconst 1, 1) := by decide +kernel
theorem dL_law_639 : decode code 639 = .ok (.iadd, 1) := by decide +kernel
theorem dL_law_640 : decode code 640 = .ok (.iaload, 1) := by decide +kernel
theorem dL_law_641 : decode code 641 = .ok (.aload_n 0, 1) := by decide +kernel
theorem dL_law_642 : decode code 642 = .ok (.iload_n 3, 1) := by decide +kernel
theorem dL_law_643 : decode code 643 = .ok (.iconst 2, 1) := by decide +kernel
theorem dL_law_644 : decode code 644 = .ok (.iadd, 1) := by decide +kernel
theorem dL_law_645 : decode code 645 = .ok (.iaload, 1) := by decide +kernel
theorem dL_law_646 : decode code 646 = .ok (.invokevirtual 78, 3) := by decide +kernel
theorem dL_law_649 : decode code 649 = .ok (.if_icmp .eq 720, 3) := by decide +kernel
theorem dL_law_652 : decode code 652 = .ok (.iconst 0, 1) := by decide +kernel
theorem dL_law_653 : decode code 653 = .ok (.ireturn, 1) := by decide +kernel
theorem dL_law_654 : decode code 654 = .ok (.aload_n 1, 1) := by decide +kernel
theorem dL_law_655 : decode code 655 = .ok (.aload_n 0, 1) := by decide +kernel
theorem dL_law_656 : decode code 656 = .ok (.iload_n 3, 1) := by decide +kernel
theorem dL_law_657 : decode code 657 = .ok (.iconst 1, 1) := by decide +kernel
theorem dL_law_658 : decode code 658 = .ok (.iadd, 1) := by decide +kernel
theorem dL_law_659 : decode code 659 = .ok (.iaload, 1) := by decide +kernel
theorem dL_law_660 : decode code 660 = .ok (.invokevirtual 79, 3) := by decide +kernel
theorem dL_law_663 : decode code 663 = .ok (.aload_n 2, 1) := by decide +kernel
theorem dL_law_664 : decode code 664 = .ok (.aload_n 0, 1) := by decide +kernel
theorem dL_law_665 : decode code 665 = .ok (.iload_n 3, 1) := by decide +kernel
theorem dL_law_666 : decode code 666 = .ok (.iconst 1, 1) := by decide +kernel
theorem dL_law_667 : decode code 667 = .ok (.iadd, 1) := by decide +kernel
theorem dL_law_668 : decode code 668 = .ok (.iaload, 1) := by decide +kernel
theorem dL_law_669 : decode code 669 = .ok (.invokevirtual 82, 3) := by decide +kernel
theorem dL_law_672 : decode code 672 = .ok (.if_icmp .eq 697, 3) := by decide +kernel
theorem dL_law_675 : decode code 675 = .ok (.iconst 0, 1) := by decide +kernel
theorem dL_law_676 : decode code 676 = .ok (.ireturn, 1) := by decide +kernel
theorem dL_law_677 : decode code 677 = .ok (.aload_n 1, 1) := by decide +kernel
theorem dL_law_678 : decode code 678 = .ok (.aload_n 0, 1) := by decide +kernel
theorem dL_law_679 : decode code 679 = .ok (.iload_n 3, 1) := by decide +kernel
theorem dL_law_680 : decode code 680 = .ok (.iconst 1, 1) := by decide +kernel
theorem dL_law_681 : decode code 681 = .ok (.iadd, 1) := by decide +kernel
theorem dL_law_682 : decode code 682 = .ok (.iaload, 1) := by decide +kernel
theorem dL_law_683 : decode code 683 = .ok (.aload_n 0, 1) := by decide +kernel
theorem dL_law_684 : decode code 684 = .ok (.iload_n 3, 1) := by decide +kernel
theorem dL_law_685 : decode code 685 = .ok (.iconst 2, 1) := by decide +kernel
theorem dL_law_686 : decode code 686 = .ok (.iadd, 1) := by decide +kernel
theorem dL_law_687 : decode code 687 = .ok (.iaload, 1) := by decide +kernel
theorem dL_law_688 : decode code 688 = .ok (.invokevirtual 83, 3) := by decide +kernel
theorem dL_law_691 : decode code 691 = .ok (.aload_n 2, 1) := by decide +kernel
theorem dL_law_692 : decode code 692 = .ok (.aload_n 0, 1) := by decide +kernel
theorem dL_law_693 : decode code 693 = .ok (.iload_n 3, 1) := by decide +kernel
theorem dL_law_694 : decode code 694 = .ok (.iconst 1, 1) := by decide +kernel
theorem dL_law_695 : decode code 695 = .ok (.iadd, 1) := by decide +kernel
theorem dL_law_696 : decode code 696 = .ok (.iaload, 1) := by decide +kernel
theorem dL_law_697 : decode code 697 = .ok (.aload_n 0, 1) := by decide +kernel
theorem dL_law_698 : decode code 698 = .ok (.iload_n 3, 1) := by decide +kernel
theorem dL_law_699 : decode code 699 = .ok (.iconst 2, 1) := by decide +kernel
theorem dL_law_700 : decode code 700 = .ok (.iadd, 1) := by decide +kernel
theorem dL_law_701 : decode code 701 = .ok (.iaload, 1) := by decide +kernel
theorem dL_law_702 : decode code 702 = .ok (.invokevirtual 86, 3) := by decide +kernel
theorem dL_law_705 : decode code 705 = .ok (.if_icmp .eq 664, 3) := by decide +kernel
theorem dL_law_708 : decode code 708 = .ok (.iconst 0, 1) := by decide +kernel
theorem dL_law_709 : decode code 709 = .ok (.ireturn, 1) := by decide +kernel
theorem dL_law_710 : decode code 710 = .ok (.aload_n 1, 1) := by decide +kernel
theorem dL_law_711 : decode code 711 = .ok (.aload_n 0, 1) := by decide +kernel
theorem dL_law_712 : decode code 712 = .ok (.iload_n 3, 1) := by decide +kernel
theorem dL_law_713 : decode code 713 = .ok (.iconst 1, 1) := by decide +kernel
theorem dL_law_714 : decode code 714 = .ok (.iadd, 1) := by decide +kernel
theorem dL_law_715 : decode code 715 = .ok (.iaload, 1) := by decide +kernel
theorem dL_law_716 : decode code 716 = .ok (.invokevirtual 87, 3) := by decide +kernel
theorem dL_law_719 : decode code 719 = .ok (.aload_n 2, 1) := by decide +kernel
theorem dL_law_720 : decode code 720 = .ok (.aload_n 0, 1) := by decide +kernel
theorem dL_law_721 : decode code 721 = .ok (.iload_n 3, 1) := by decide +kernel
theorem dL_law_722 : decode code 722 = .ok (.iconst 1, 1) := by decide +kernel
theorem dL_law_723 : decode code 723 = .ok (.iadd, 1) := by decide +kernel
theorem dL_law_724 : decode code 724 = .ok (.iaload, 1) := by decide +kernel
theorem dL_law_725 : decode code 725 = .ok (.invokevirtual 90, 3) := by decide +kernel
theorem dL_law_728 : decode code 728 = .ok (.if_icmp .eq 641, 3) := by decide +kernel
theorem dL_law_731 : decode code 731 = .ok (.iconst 0, 1) := by decide +kernel
theorem dL_law_732 : decode code 732 = .ok (.ireturn, 1) := by decide +kernel
theorem dL_law_733 : decode code 733 = .ok (.aload_n 1, 1) := by decide +kernel
theorem dL_law_734 : decode code 734 = .ok (.aload_n 0, 1) := by decide +kernel
theorem dL_law_735 : decode code 735 = .ok (.iload_n 3, 1) := by decide +kernel
theorem dL_law_736 : decode code 736 = .ok (.iconst 1, 1) := by decide +kernel
theorem dL_law_737 : decode code 737 = .ok (.iadd, 1) := by decide +kernel
theorem dL_law_738 : decode code 738 = .ok (.iaload, 1) := by decide +kernel
theorem dL_law_739 : decode code 739 = .ok (.aload_n 0, 1) := by decide +kernel
theorem dL_law_740 : decode code 740 = .ok (.iload_n 3, 1) := by decide +kernel
theorem dL_law_741 : decode code 741 = .ok (.iconst 2, 1) := by decide +kernel
theorem dL_law_742 : decode code 742 = .ok (.iadd, 1) := by decide +kernel
theorem dL_law_743 : decode code 743 = .ok (.iaload, 1) := by decide +kernel
theorem dL_law_744 : decode code 744 = .ok (.aload_n 0, 1) := by decide +kernel
theorem dL_law_745 : decode code 745 = .ok (.iload_n 3, 1) := by decide +kernel
theorem dL_law_746 : decode code 746 = .ok (.iconst 3, 1) := by decide +kernel
theorem dL_law_747 : decode code 747 = .ok (.iadd, 1) := by decide +kernel
theorem dL_law_748 : decode code 748 = .ok (.iaload, 1) := by decide +kernel
theorem dL_law_749 : decode code 749 = .ok (.aload_n 0, 1) := by decide +kernel
theorem dL_law_750 : decode code 750 = .ok (.iload_n 3, 1) := by decide +kernel
theorem dL_law_751 : decode code 751 = .ok (.iconst 4, 1) := by decide +kernel
theorem dL_law_752 : decode code 752 = .ok (.iadd, 1) := by decide +kernel
theorem dL_law_753 : decode code 753 = .ok (.iaload, 1) := by decide +kernel
theorem dL_law_754 : decode code 754 = .ok (.invokevirtual 91, 3) := by decide +kernel
theorem dL_law_757 : decode code 757 = .ok (.aload_n 2, 1) := by decide +kernel
theorem dL_law_758 : decode code 758 = .ok (.aload_n 0, 1) := by decide +kernel
theorem dL_law_759 : decode code 759 = .ok (.iload_n 3, 1) := by decide +kernel
theorem dL_law_760 : decode code 760 = .ok (.iconst 1, 1) := by decide +kernel
theorem dL_law_761 : decode code 761 = .ok (.iadd, 1) := by decide +kernel
theorem dL_law_762 : decode code 762 = .ok (.iaload, 1) := by decide +kernel
theorem dL_law_763 : decode code 763 = .ok (.aload_n 0, 1) := by decide +kernel
theorem dL_law_764 : decode code 764 = .ok (.iload_n 3, 1) := by decide +kernel
theorem dL_law_765 : decode code 765 = .ok (.iconst 2, 1) := by decide +kernel
theorem dL_law_766 : decode code 766 = .ok (.iadd, 1) := by decide +kernel
theorem dL_law_767 : decode code 767 = .ok (.iaload, 1) := by decide +kernel
theorem dL_law_768 : decode code 768 = .ok (.aload_n 0, 1) := by decide +kernel
theorem dL_law_769 : decode code 769 = .ok (.iload_n 3, 1) := by decide +kernel
