theorem dL_law_630 : decode cL_law 630 = .ok (.iaload, 1) := bdL_law_627.2.2.2.1
theorem dL_law_631 : decode cL_law 631 = .ok (.i2l, 1) := bdL_law_627.2.2.2.2.1
theorem dL_law_632 : decode cL_law 632 = .ok (.ldc2_w 21, 3) := bdL_law_627.2.2.2.2.2.1
theorem dL_law_635 : decode cL_law 635 = .ok (.land, 1) := bdL_law_627.2.2.2.2.2.2.1
theorem dL_law_636 : decode cL_law 636 = .ok (.lor, 1) := bdL_law_627.2.2.2.2.2.2.2.1
theorem dL_law_637 : decode cL_law 637 = .ok (.invokevirtual 53, 3) := bdL_law_627.2.2.2.2.2.2.2.2.1
theorem dL_law_640 : decode cL_law 640 = .ok (.pop, 1) := bdL_law_627.2.2.2.2.2.2.2.2.2.1
theorem dL_law_641 : decode cL_law 641 = .ok (.aload_n 2, 1) := bdL_law_627.2.2.2.2.2.2.2.2.2.2.1
theorem dL_law_642 : decode cL_law 642 = .ok (.aload_n 0, 1) := bdL_law_627.2.2.2.2.2.2.2.2.2.2.2
set_option maxRecDepth 20000 in
theorem bdL_law_643 : (decode cL_law 643 = .ok (.iload_n 3, 1)) ∧ (decode cL_law 644 = .ok (.iconst 1, 1)) ∧ (decode cL_law 645 = .ok (.iadd, 1)) ∧ (decode cL_law 646 = .ok (.iaload, 1)) ∧ (decode cL_law 647 = .ok (.aload_n 0, 1)) ∧ (decode cL_law 648 = .ok (.iload_n 3, 1)) ∧ (decode cL_law 649 = .ok (.iconst 2, 1)) ∧ (decode cL_law 650 = .ok (.iadd, 1)) ∧ (decode cL_law 651 = .ok (.iaload, 1)) ∧ (decode cL_law 652 = .ok (.i2l, 1)) ∧ (decode cL_law 653 = .ok (.bipush 32, 2)) ∧ (decode cL_law 655 = .ok (.lshl, 1)) := by decide +kernel
theorem dL_law_643 : decode cL_law 643 = .ok (.iload_n 3, 1) := bdL_law_643.1
theorem dL_law_644 : decode cL_law 644 = .ok (.iconst 1, 1) := bdL_law_643.2.1
theorem dL_law_645 : decode cL_law 645 = .ok (.iadd, 1) := bdL_law_643.2.2.1
theorem dL_law_646 : decode cL_law 646 = .ok (.iaload, 1) := bdL_law_643.2.2.2.1
theorem dL_law_647 : decode cL_law 647 = .ok (.aload_n 0, 1) := bdL_law_643.2.2.2.2.1
theorem dL_law_648 : decode cL_law 648 = .ok (.iload_n 3, 1) := bdL_law_643.2.2.2.2.2.1
theorem dL_law_649 : decode cL_law 649 = .ok (.iconst 2, 1) := bdL_law_643.2.2.2.2.2.2.1
theorem dL_law_650 : decode cL_law 650 = .ok (.iadd, 1) := bdL_law_643.2.2.2.2.2.2.2.1
theorem dL_law_651 : decode cL_law 651 = .ok (.iaload, 1) := bdL_law_643.2.2.2.2.2.2.2.2.1
theorem dL_law_652 : decode cL_law 652 = .ok (.i2l, 1) := bdL_law_643.2.2.2.2.2.2.2.2.2.1
theorem dL_law_653 : decode cL_law 653 = .ok (.bipush 32, 2) := bdL_law_643.2.2.2.2.2.2.2.2.2.2.1
theorem dL_law_655 : decode cL_law 655 = .ok (.lshl, 1) := bdL_law_643.2.2.2.2.2.2.2.2.2.2.2
set_option maxRecDepth 20000 in
theorem bdL_law_656 : (decode cL_law 656 = .ok (.aload_n 0, 1)) ∧ (decode cL_law 657 = .ok (.iload_n 3, 1)) ∧ (decode cL_law 658 = .ok (.iconst 3, 1)) ∧ (decode cL_law 659 = .ok (.iadd, 1)) ∧ (decode cL_law 660 = .ok (.iaload, 1)) ∧ (decode cL_law 661 = .ok (.i2l, 1)) ∧ (decode cL_law 662 = .ok (.ldc2_w 21, 3)) ∧ (decode cL_law 665 = .ok (.land, 1)) ∧ (decode cL_law 666 = .ok (.lor, 1)) ∧ (decode cL_law 667 = .ok (.invokevirtual 57, 3)) ∧ (decode cL_law 670 = .ok (.pop, 1)) ∧ (decode cL_law 671 = .ok (.goto 557, 3)) := by decide +kernel
theorem dL_law_656 : decode cL_law 656 = .ok (.aload_n 0, 1) := bdL_law_656.1
theorem dL_law_657 : decode cL_law 657 = .ok (.iload_n 3, 1) := bdL_law_656.2.1
theorem dL_law_658 : decode cL_law 658 = .ok (.iconst 3, 1) := bdL_law_656.2.2.1
theorem dL_law_659 : decode cL_law 659 = .ok (.iadd, 1) := bdL_law_656.2.2.2.1
theorem dL_law_660 : decode cL_law 660 = .ok (.iaload, 1) := bdL_law_656.2.2.2.2.1
theorem dL_law_661 : decode cL_law 661 = .ok (.i2l, 1) := bdL_law_656.2.2.2.2.2.1
theorem dL_law_662 : decode cL_law 662 = .ok (.ldc2_w 21, 3) := bdL_law_656.2.2.2.2.2.2.1
theorem dL_law_665 : decode cL_law 665 = .ok (.land, 1) := bdL_law_656.2.2.2.2.2.2.2.1
theorem dL_law_666 : decode cL_law 666 = .ok (.lor, 1) := bdL_law_656.2.2.2.2.2.2.2.2.1
theorem dL_law_667 : decode cL_law 667 = .ok (.invokevirtual 57, 3) := bdL_law_656.2.2.2.2.2.2.2.2.2.1
theorem dL_law_670 : decode cL_law 670 = .ok (.pop, 1) := bdL_law_656.2.2.2.2.2.2.2.2.2.2.1
theorem dL_law_671 : decode cL_law 671 = .ok (.goto 557, 3) := bdL_law_656.2.2.2.2.2.2.2.2.2.2.2
set_option maxRecDepth 20000 in
theorem bdL_law_674 : (decode cL_law 674 = .ok (.aload_n 1, 1)) ∧ (decode cL_law 675 = .ok (.aload_n 0, 1)) ∧ (decode cL_law 676 = .ok (.iload_n 3, 1)) ∧ (decode cL_law 677 = .ok (.iconst 1, 1)) ∧ (decode cL_law 678 = .ok (.iadd, 1)) ∧ (decode cL_law 679 = .ok (.iaload, 1)) ∧ (decode cL_law 680 = .ok (.i2l, 1)) ∧ (decode cL_law 681 = .ok (.bipush 32, 2)) ∧ (decode cL_law 683 = .ok (.lshl, 1)) ∧ (decode cL_law 684 = .ok (.aload_n 0, 1)) ∧ (decode cL_law 685 = .ok (.iload_n 3, 1)) ∧ (decode cL_law 686 = .ok (.iconst 2, 1)) := by decide +kernel
theorem dL_law_674 : decode cL_law 674 = .ok (.aload_n 1, 1) := bdL_law_674.1
theorem dL_law_675 : decode cL_law 675 = .ok (.aload_n 0, 1) := bdL_law_674.2.1
theorem dL_law_676 : decode cL_law 676 = .ok (.iload_n 3, 1) := bdL_law_674.2.2.1
theorem dL_law_677 : decode cL_law 677 = .ok (.iconst 1, 1) := bdL_law_674.2.2.2.1
theorem dL_law_678 : decode cL_law 678 = .ok (.iadd, 1) := bdL_law_674.2.2.2.2.1
theorem dL_law_679 : decode cL_law 679 = .ok (.iaload, 1) := bdL_law_674.2.2.2.2.2.1
theorem dL_law_680 : decode cL_law 680 = .ok (.i2l, 1) := bdL_law_674.2.2.2.2.2.2.1
theorem dL_law_681 : decode cL_law 681 = .ok (.bipush 32, 2) := bdL_law_674.2.2.2.2.2.2.2.1
theorem dL_law_683 : decode cL_law 683 = .ok (.lshl, 1) := bdL_law_674.2.2.2.2.2.2.2.2.1
theorem dL_law_684 : decode cL_law 684 = .ok (.aload_n 0, 1) := bdL_law_674.2.2.2.2.2.2.2.2.2.1
theorem dL_law_685 : decode cL_law 685 = .ok (.iload_n 3, 1) := bdL_law_674.2.2.2.2.2.2.2.2.2.2.1
theorem dL_law_686 : decode cL_law 686 = .ok (.iconst 2, 1) := bdL_law_674.2.2.2.2.2.2.2.2.2.2.2
set_option maxRecDepth 20000 in
theorem bdL_law_687 : (decode cL_law 687 = .ok (.iadd, 1)) ∧ (decode cL_law 688 = .ok (.iaload, 1)) ∧ (decode cL_law 689 = .ok (.i2l, 1)) ∧ (decode cL_law 690 = .ok (.ldc2_w 21, 3)) ∧ (decode cL_law 693 = .ok (.land, 1)) ∧ (decode cL_law 694 = .ok (.lor, 1)) ∧ (decode cL_law 695 = .ok (.aload_n 0, 1)) ∧ (decode cL_law 696 = .ok (.iload_n 3, 1)) ∧ (decode cL_law 697 = .ok (.iconst 3, 1)) ∧ (decode cL_law 698 = .ok (.iadd, 1)) ∧ (decode cL_law 699 = .ok (.iaload, 1)) ∧ (decode cL_law 700 = .ok (.aload_n 0, 1)) := by decide +kernel
theorem dL_law_687 : decode cL_law 687 = .ok (.iadd, 1) := bdL_law_687.1
theorem dL_law_688 : decode cL_law 688 = .ok (.iaload, 1) := bdL_law_687.2.1
theorem dL_law_689 : decode cL_law 689 = .ok (.i2l, 1) := bdL_law_687.2.2.1
theorem dL_law_690 : decode cL_law 690 = .ok (.ldc2_w 21, 3) := bdL_law_687.2.2.2.1
theorem dL_law_693 : decode cL_law 693 = .ok (.land, 1) := bdL_law_687.2.2.2.2.1
theorem dL_law_694 : decode cL_law 694 = .ok (.lor, 1) := bdL_law_687.2.2.2.2.2.1
theorem dL_law_695 : decode cL_law 695 = .ok (.aload_n 0, 1) := bdL_law_687.2.2.2.2.2.2.1
theorem dL_law_696 : decode cL_law 696 = .ok (.iload_n 3, 1) := bdL_law_687.2.2.2.2.2.2.2.1
theorem dL_law_697 : decode cL_law 697 = .ok (.iconst 3, 1) := bdL_law_687.2.2.2.2.2.2.2.2.1
theorem dL_law_698 : decode cL_law 698 = .ok (.iadd, 1) := bdL_law_687.2.2.2.2.2.2.2.2.2.1
theorem dL_law_699 : decode cL_law 699 = .ok (.iaload, 1) := bdL_law_687.2.2.2.2.2.2.2.2.2.2.1
theorem dL_law_700 : decode cL_law 700 = .ok (.aload_n 0, 1) := bdL_law_687.2.2.2.2.2.2.2.2.2.2.2
set_option maxRecDepth 20000 in
theorem bdL_law_701 : (decode cL_law 701 = .ok (.iload_n 3, 1)) ∧ (decode cL_law 702 = .ok (.iconst 4, 1)) ∧ (decode cL_law 703 = .ok (.iadd, 1)) ∧ (decode cL_law 704 = .ok (.iaload, 1)) ∧ (decode cL_law 705 = .ok (.invokevirtual 58, 3)) ∧ (decode cL_law 708 = .ok (.pop, 1)) ∧ (decode cL_law 709 = .ok (.aload_n 2, 1)) ∧ (decode cL_law 710 = .ok (.aload_n 0, 1)) ∧ (decode cL_law 711 = .ok (.iload_n 3, 1)) ∧ (decode cL_law 712 = .ok (.iconst 1, 1)) ∧ (decode cL_law 713 = .ok (.iadd, 1)) ∧ (decode cL_law 714 = .ok (.iaload, 1)) := by decide +kernel
theorem dL_law_701 : decode cL_law 701 = .ok (.iload_n 3, 1) := bdL_law_701.1
theorem dL_law_702 : decode cL_law 702 = .ok (.iconst 4, 1) := bdL_law_701.2.1
theorem dL_law_703 : decode cL_law 703 = .ok (.iadd, 1) := bdL_law_701.2.2.1
theorem dL_law_704 : decode cL_law 704 = .ok (.iaload, 1) := bdL_law_701.2.2.2.1
theorem dL_law_705 : decode cL_law 705 = .ok (.invokevirtual 58, 3) := bdL_law_701.2.2.2.2.1
theorem dL_law_708 : decode cL_law 708 = .ok (.pop, 1) := bdL_law_701.2.2.2.2.2.1
theorem dL_law_709 : decode cL_law 709 = .ok (.aload_n 2, 1) := bdL_law_701.2.2.2.2.2.2.1
theorem dL_law_710 : decode cL_law 710 = .ok (.aload_n 0, 1) := bdL_law_701.2.2.2.2.2.2.2.1
theorem dL_law_711 : decode cL_law 711 = .ok (.iload_n 3, 1) := bdL_law_701.2.2.2.2.2.2.2.2.1
theorem dL_law_712 : decode cL_law 712 = .ok (.iconst 1, 1) := bdL_law_701.2.2.2.2.2.2.2.2.2.1
theorem dL_law_713 : decode cL_law 713 = .ok (.iadd, 1) := bdL_law_701.2.2.2.2.2.2.2.2.2.2.1
theorem dL_law_714 : decode cL_law 714 = .ok (.iaload, 1) := bdL_law_701.2.2.2.2.2.2.2.2.2.2.2
set_option maxRecDepth 20000 in
theorem bdL_law_715 : (decode cL_law 715 = .ok (.i2l, 1)) ∧ (decode cL_law 716 = .ok (.bipush 32, 2)) ∧ (decode cL_law 718 = .ok (.lshl, 1)) ∧ (decode cL_law 719 = .ok (.aload_n 0, 1)) ∧ (decode cL_law 720 = .ok (.iload_n 3, 1)) ∧ (decode cL_law 721 = .ok (.iconst 2, 1)) ∧ (decode cL_law 722 = .ok (.iadd, 1)) ∧ (decode cL_law 723 = .ok (.iaload, 1)) ∧ (decode cL_law 724 = .ok (.i2l, 1)) ∧ (decode cL_law 725 = .ok (.ldc2_w 21, 3)) ∧ (decode cL_law 728 = .ok (.land, 1)) ∧ (decode cL_law 729 = .ok (.lor, 1)) := by decide +kernel
theorem dL_law_715 : decode cL_law 715 = .ok (.i2l, 1) := bdL_law_715.1
theorem dL_law_716 : decode cL_law 716 = .ok (.bipush 32, 2) := bdL_law_715.2.1
theorem dL_law_718 : decode cL_law 718 = .ok (.lshl, 1) := bdL_law_715.2.2.1
theorem dL_law_719 : decode cL_law 719 = .ok (.aload_n 0, 1) := bdL_law_715.2.2.2.1
theorem dL_law_720 : decode cL_law 720 = .ok (.iload_n 3, 1) := bdL_law_715.2.2.2.2.1
theorem dL_law_721 : decode cL_law 721 = .ok (.iconst 2, 1) := bdL_law_715.2.2.2.2.2.1
theorem dL_law_722 : decode cL_law 722 = .ok (.iadd, 1) := bdL_law_715.2.2.2.2.2.2.1
theorem dL_law_723 : decode cL_law 723 = .ok (.iaload, 1) := bdL_law_715.2.2.2.2.2.2.2.1
theorem dL_law_724 : decode cL_law 724 = .ok (.i2l, 1) := bdL_law_715.2.2.2.2.2.2.2.2.1
theorem dL_law_725 : decode cL_law 725 = .ok (.ldc2_w 21, 3) := bdL_law_715.2.2.2.2.2.2.2.2.2.1
theorem dL_law_728 : decode cL_law 728 = .ok (.land, 1) := bdL_law_715.2.2.2.2.2.2.2.2.2.2.1
theorem dL_law_729 : decode cL_law 729 = .ok (.lor, 1) := bdL_law_715.2.2.2.2.2.2.2.2.2.2.2
set_option maxRecDepth 20000 in
theorem bdL_law_730 : (decode cL_law 730 = .ok (.aload_n 0, 1)) ∧ (decode cL_law 731 = .ok (.iload_n 3, 1)) ∧ (decode cL_law 732 = .ok (.iconst 3, 1)) ∧ (decode cL_law 733 = .ok (.iadd, 1)) ∧ (decode cL_law 734 = .ok (.iaload, 1)) ∧ (decode cL_law 735 = .ok (.aload_n 0, 1)) ∧ (decode cL_law 736 = .ok (.iload_n 3, 1)) ∧ (decode cL_law 737 = .ok (.iconst 4, 1)) ∧ (decode cL_law 738 = .ok (.iadd, 1)) ∧ (decode cL_law 739 = .ok (.iaload, 1)) ∧ (decode cL_law 740 = .ok (.invokevirtual 62, 3)) ∧ (decode cL_law 743 = .ok (.pop, 1)) := by decide +kernel
theorem dL_law_730 : decode cL_law 730 = .ok (.aload_n 0, 1) := bdL_law_730.1
theorem dL_law_731 : decode cL_law 731 = .ok (.iload_n 3, 1) := bdL_law_730.2.1
theorem dL_law_732 : decode cL_law 732 = .ok (.iconst 3, 1) := bdL_law_730.2.2.1
theorem dL_law_733 : decode cL_law 733 = .ok (.iadd, 1) := bdL_law_730.2.2.2.1
theorem dL_law_734 : decode cL_law 734 = .ok (.iaload, 1) := bdL_law_730.2.2.2.2.1
theorem dL_law_735 : decode cL_law 735 = .ok (.aload_n 0, 1) := bdL_law_730.2.2.2.2.2.1
theorem dL_law_736 : decode cL_law 736 = .ok (.iload_n 3, 1) := bdL_law_730.2.2.2.2.2.2.1
theorem dL_law_737 : decode cL_law 737 = .ok (.iconst 4, 1) := bdL_law_730.2.2.2.2.2.2.2.1
theorem dL_law_738 : decode cL_law 738 = .ok (.iadd, 1) := bdL_law_730.2.2.2.2.2.2.2.2.1
theorem dL_law_739 : decode cL_law 739 = .ok (.iaload, 1) := bdL_law_730.2.2.2.2.2.2.2.2.2.1
theorem dL_law_740 : decode cL_law 740 = .ok (.invokevirtual 62, 3) := bdL_law_730.2.2.2.2.2.2.2.2.2.2.1
theorem dL_law_743 : decode cL_law 743 = .ok (.pop, 1) := bdL_law_730.2.2.2.2.2.2.2.2.2.2.2
set_option maxRecDepth 20000 in
theorem bdL_law_744 : (decode cL_law 744 = .ok (.goto 484, 3)) ∧ (decode cL_law 747 = .ok (.aload_n 1, 1)) ∧ (decode cL_law 748 = .ok (.aload_n 0, 1)) ∧ (decode cL_law 749 = .ok (.iload_n 3, 1)) ∧ (decode cL_law 750 = .ok (.iconst 1, 1)) ∧ (decode cL_law 751 = .ok (.iadd, 1)) ∧ (decode cL_law 752 = .ok (.iaload, 1)) ∧ (decode cL_law 753 = .ok (.i2l, 1)) ∧ (decode cL_law 754 = .ok (.bipush 32, 2)) ∧ (decode cL_law 756 = .ok (.lshl, 1)) ∧ (decode cL_law 757 = .ok (.aload_n 0, 1)) ∧ (decode cL_law 758 = .ok (.iload_n 3, 1)) := by decide +kernel
theorem dL_law_744 : decode cL_law 744 = .ok (.goto 484, 3) := bdL_law_744.1
theorem dL_law_747 : decode cL_law 747 = .ok (.aload_n 1, 1) := bdL_law_744.2.1
theorem dL_law_748 : decode cL_law 748 = .ok (.aload_n 0, 1) := bdL_law_744.2.2.1
theorem dL_law_749 : decode cL_law 749 = .ok (.iload_n 3, 1) := bdL_law_744.2.2.2.1
theorem dL_law_750 : decode cL_law 750 = .ok (.iconst 1, 1) := bdL_law_744.2.2.2.2.1
theorem dL_law_751 : decode cL_law 751 = .ok (.iadd, 1) := bdL_law_744.2.2.2.2.2.1
theorem dL_law_752 : decode cL_law 752 = .ok (.iaload, 1) := bdL_law_744.2.2.2.2.2.2.1
theorem dL_law_753 : decode cL_law 753 = .ok (.i2l, 1) := bdL_law_744.2.2.2.2.2.2.2.1
theorem dL_law_754 : decode cL_law 754 = .ok (.bipush 32, 2) := bdL_law_744.2.2.2.2.2.2.2.2.1
theorem dL_law_756 : decode cL_law 756 = .ok (.lshl, 1) := bdL_law_744.2.2.2.2.2.2.2.2.2.1
theorem dL_law_757 : decode cL_law 757 = .ok (.aload_n 0, 1) := bdL_law_744.2.2.2.2.2.2.2.2.2.2.1
theorem dL_law_758 : decode cL_law 758 = .ok (.iload_n 3, 1) := bdL_law_744.2.2.2.2.2.2.2.2.2.2.2
set_option maxRecDepth 20000 in
theorem bdL_law_759 : (decode cL_law 759 = .ok (.iconst 2, 1)) ∧ (decode cL_law 760 = .ok (.iadd, 1)) ∧ (decode cL_law 761 = .ok (.iaload, 1)) ∧ (decode cL_law 762 = .ok (.i2l, 1)) ∧ (decode cL_law 763 = .ok (.ldc2_w 21, 3)) ∧ (decode cL_law 766 = .ok (.land, 1)) ∧ (decode cL_law 767 = .ok (.lor, 1)) ∧ (decode cL_law 768 = .ok (.aload_n 0, 1)) ∧ (decode cL_law 769 = .ok (.iload_n 3, 1)) ∧ (decode cL_law 770 = .ok (.iconst 3, 1)) ∧ (decode cL_law 771 = .ok (.iadd, 1)) ∧ (decode cL_law 772 = .ok (.iaload, 1)) := by decide +kernel
theorem dL_law_759 : decode cL_law 759 = .ok (.iconst 2, 1) := bdL_law_759.1
theorem dL_law_760 : decode cL_law 760 = .ok (.iadd, 1) := bdL_law_759.2.1
theorem dL_law_761 : decode cL_law 761 = .ok (.iaload, 1) := bdL_law_759.2.2.1
theorem dL_law_762 : decode cL_law 762 = .ok (.i2l, 1) := bdL_law_759.2.2.2.1
theorem dL_law_763 : decode cL_law 763 = .ok (.ldc2_w 21, 3) := bdL_law_759.2.2.2.2.1
theorem dL_law_766 : decode cL_law 766 = .ok (.land, 1) := bdL_law_759.2.2.2.2.2.1
theorem dL_law_767 : decode cL_law 767 = .ok (.lor, 1) := bdL_law_759.2.2.2.2.2.2.1
theorem dL_law_768 : decode cL_law 768 = .ok (.aload_n 0, 1) := bdL_law_759.2.2.2.2.2.2.2.1
theorem dL_law_769 : decode cL_law 769 = .ok (.iload_n 3, 1) := bdL_law_759.2.2.2.2.2.2.2.2.1
theorem dL_law_770 : decode cL_law 770 = .ok (.iconst 3, 1) := bdL_law_759.2.2.2.2.2.2.2.2.2.1
theorem dL_law_771 : decode cL_law 771 = .ok (.iadd, 1) := bdL_law_759.2.2.2.2.2.2.2.2.2.2.1
theorem dL_law_772 : decode cL_law 772 = .ok (.iaload, 1) := bdL_law_759.2.2.2.2.2.2.2.2.2.2.2
set_option maxRecDepth 20000 in
theorem bdL_law_773 : (decode cL_law 773 = .ok (.aload_n 0, 1)) ∧ (decode cL_law 774 = .ok (.iload_n 3, 1)) ∧ (decode cL_law 775 = .ok (.iconst 4, 1)) ∧ (decode cL_law 776 = .ok (.iadd, 1)) ∧ (decode cL_law 777 = .ok (.iaload, 1)) ∧ (decode cL_law 778 = .ok (.aload_n 0, 1)) ∧ (decode cL_law 779 = .ok (.iload_n 3, 1)) ∧ (decode cL_law 780 = .ok (.iconst 5, 1)) ∧ (decode cL_law 781 = .ok (.iadd, 1)) ∧ (decode cL_law 782 = .ok (.iaload, 1)) ∧ (decode cL_law 783 = .ok (.aload_n 0, 1)) ∧ (decode cL_law 784 = .ok (.iload_n 3, 1)) := by decide +kernel
theorem dL_law_773 : decode cL_law 773 = .ok (.aload_n 0, 1) := bdL_law_773.1
theorem dL_law_774 : decode cL_law 774 = .ok (.iload_n 3, 1) := bdL_law_773.2.1
theorem dL_law_775 : decode cL_law 775 = .ok (.iconst 4, 1) := bdL_law_773.2.2.1
theorem dL_law_776 : decode cL_law 776 = .ok (.iadd, 1) := bdL_law_773.2.2.2.1
theorem dL_law_777 : decode cL_law 777 = .ok (.iaload, 1) := bdL_law_773.2.2.2.2.1
theorem dL_law_778 : decode cL_law 778 = .ok (.aload_n 0, 1) := bdL_law_773.2.2.2.2.2.1
theorem dL_law_779 : decode cL_law 779 = .ok (.iload_n 3, 1) := bdL_law_773.2.2.2.2.2.2.1
theorem dL_law_780 : decode cL_law 780 = .ok (.iconst 5, 1) := bdL_law_773.2.2.2.2.2.2.2.1
theorem dL_law_781 : decode cL_law 781 = .ok (.iadd, 1) := bdL_law_773.2.2.2.2.2.2.2.2.1
theorem dL_law_782 : decode cL_law 782 = .ok (.iaload, 1) := bdL_law_773.2.2.2.2.2.2.2.2.2.1
theorem dL_law_783 : decode cL_law 783 = .ok (.aload_n 0, 1) := bdL_law_773.2.2.2.2.2.2.2.2.2.2.1
theorem dL_law_784 : decode cL_law 784 = .ok (.iload_n 3, 1) := bdL_law_773.2.2.2.2.2.2.2.2.2.2.2
set_option maxRecDepth 20000 in
theorem bdL_law_785 : (decode cL_law 785 = .ok (.bipush 6, 2)) ∧ (decode cL_law 787 = .ok (.iadd, 1)) ∧ (decode cL_law 788 = .ok (.iaload, 1)) ∧ (decode cL_law 789 = .ok (.invokevirtual 63, 3)) ∧ (decode cL_law 792 = .ok (.pop, 1)) ∧ (decode cL_law 793 = .ok (.aload_n 2, 1)) ∧ (decode cL_law 794 = .ok (.aload_n 0, 1)) ∧ (decode cL_law 795 = .ok (.iload_n 3, 1)) ∧ (decode cL_law 796 = .ok (.iconst 1, 1)) ∧ (decode cL_law 797 = .ok (.iadd, 1)) ∧ (decode cL_law 798 = .ok (.iaload, 1)) ∧ (decode cL_law 799 = .ok (.i2l, 1)) := by decide +kernel
theorem dL_law_785 : decode cL_law 785 = .ok (.bipush 6, 2) := bdL_law_785.1
theorem dL_law_787 : decode cL_law 787 = .ok (.iadd, 1) := bdL_law_785.2.1
theorem dL_law_788 : decode cL_law 788 = .ok (.iaload, 1) := bdL_law_785.2.2.1
theorem dL_law_789 : decode cL_law 789 = .ok (.invokevirtual 63, 3) := bdL_law_785.2.2.2.1
theorem dL_law_792 : decode cL_law 792 = .ok (.pop, 1) := bdL_law_785.2.2.2.2.1
theorem dL_law_793 : decode cL_law 793 = .ok (.aload_n 2, 1) := bdL_law_785.2.2.2.2.2.1
theorem dL_law_794 : decode cL_law 794 = .ok (.aload_n 0, 1) := bdL_law_785.2.2.2.2.2.2.1
theorem dL_law_795 : decode cL_law 795 = .ok (.iload_n 3, 1) := bdL_law_785.2.2.2.2.2.2.2.1
theorem dL_law_796 : decode cL_law 796 = .ok (.iconst 1, 1) := bdL_law_785.2.2.2.2.2.2.2.2.1
theorem dL_law_797 : decode cL_law 797 = .ok (.iadd, 1) := bdL_law_785.2.2.2.2.2.2.2.2.2.1
theorem dL_law_798 : decode cL_law 798 = .ok (.iaload, 1) := bdL_law_785.2.2.2.2.2.2.2.2.2.2.1
theorem dL_law_799 : decode cL_law 799 = .ok (.i2l, 1) := bdL_law_785.2.2.2.2.2.2.2.2.2.2.2
set_option maxRecDepth 20000 in
theorem bdL_law_800 : (decode cL_law 800 = .ok (.bipush 32, 2)) ∧ (decode cL_law 802 = .ok (.lshl, 1)) ∧ (decode cL_law 803 = .ok (.aload_n 0, 1)) ∧ (decode cL_law 804 = .ok (.iload_n 3, 1)) ∧ (decode cL_law 805 = .ok (.iconst 2, 1)) ∧ (decode cL_law 806 = .ok (.iadd, 1)) ∧ (decode cL_law 807 = .ok (.iaload, 1)) ∧ (decode cL_law 808 = .ok (.i2l, 1)) ∧ (decode cL_law 809 = .ok (.ldc2_w 21, 3)) ∧ (decode cL_law 812 = .ok (.land, 1)) ∧ (decode cL_law 813 = .ok (.lor, 1)) ∧ (decode cL_law 814 = .ok (.aload_n 0, 1)) := by decide +kernel
theorem dL_law_800 : decode cL_law 800 = .ok (.bipush 32, 2) := bdL_law_800.1
theorem dL_law_802 : decode cL_law 802 = .ok (.lshl, 1) := bdL_law_800.2.1
theorem dL_law_803 : decode cL_law 803 = .ok (.aload_n 0, 1) := bdL_law_800.2.2.1
theorem dL_law_804 : decode cL_law 804 = .ok (.iload_n 3, 1) := bdL_law_800.2.2.2.1
theorem dL_law_805 : decode cL_law 805 = .ok (.iconst 2, 1) := bdL_law_800.2.2.2.2.1
theorem dL_law_806 : decode cL_law 806 = .ok (.iadd, 1) := bdL_law_800.2.2.2.2.2.1
theorem dL_law_807 : decode cL_law 807 = .ok (.iaload, 1) := bdL_law_800.2.2.2.2.2.2.1
theorem dL_law_808 : decode cL_law 808 = .ok (.i2l, 1) := bdL_law_800.2.2.2.2.2.2.2.1
theorem dL_law_809 : decode cL_law 809 = .ok (.ldc2_w 21, 3) := bdL_law_800.2.2.2.2.2.2.2.2.1
theorem dL_law_812 : decode cL_law 812 = .ok (.land, 1) := bdL_law_800.2.2.2.2.2.2.2.2.2.1
theorem dL_law_813 : decode cL_law 813 = .ok (.lor, 1) := bdL_law_800.2.2.2.2.2.2.2.2.2.2.1
theorem dL_law_814 : decode cL_law 814 = .ok (.aload_n 0, 1) := bdL_law_800.2.2.2.2.2.2.2.2.2.2.2
set_option maxRecDepth 20000 in
theorem bdL_law_815 : (decode cL_law 815 = .ok (.iload_n 3, 1)) ∧ (decode cL_law 816 = .ok (.iconst 3, 1)) ∧ (decode cL_law 817 = .ok (.iadd, 1)) ∧ (decode cL_law 818 = .ok (.iaload, 1)) ∧ (decode cL_law 819 = .ok (.aload_n 0, 1)) ∧ (decode cL_law 820 = .ok (.iload_n 3, 1)) ∧ (decode cL_law 821 = .ok (.iconst 4, 1)) ∧ (decode cL_law 822 = .ok (.iadd, 1)) ∧ (decode cL_law 823 = .ok (.iaload, 1)) ∧ (decode cL_law 824 = .ok (.aload_n 0, 1)) ∧ (decode cL_law 825 = .ok (.iload_n 3, 1)) ∧ (decode cL_law 826 = .ok (.iconst 5, 1)) := by decide +kernel
theorem dL_law_815 : decode cL_law 815 = .ok (.iload_n 3, 1) := bdL_law_815.1
theorem dL_law_816 : decode cL_law 816 = .ok (.iconst 3, 1) := bdL_law_815.2.1
theorem dL_law_817 : decode cL_law 817 = .ok (.iadd, 1) := bdL_law_815.2.2.1
theorem dL_law_818 : decode cL_law 818 = .ok (.iaload, 1) := bdL_law_815.2.2.2.1
theorem dL_law_819 : decode cL_law 819 = .ok (.aload_n 0, 1) := bdL_law_815.2.2.2.2.1
theorem dL_law_820 : decode cL_law 820 = .ok (.iload_n 3, 1) := bdL_law_815.2.2.2.2.2.1
theorem dL_law_821 : decode cL_law 821 = .ok (.iconst 4, 1) := bdL_law_815.2.2.2.2.2.2.1
theorem dL_law_822 : decode cL_law 822 = .ok (.iadd, 1) := bdL_law_815.2.2.2.2.2.2.2.1
theorem dL_law_823 : decode cL_law 823 = .ok (.iaload, 1) := bdL_law_815.2.2.2.2.2.2.2.2.1
theorem dL_law_824 : decode cL_law 824 = .ok (.aload_n 0, 1) := bdL_law_815.2.2.2.2.2.2.2.2.2.1
theorem dL_law_825 : decode cL_law 825 = .ok (.iload_n 3, 1) := bdL_law_815.2.2.2.2.2.2.2.2.2.2.1
theorem dL_law_826 : decode cL_law 826 = .ok (.iconst 5, 1) := bdL_law_815.2.2.2.2.2.2.2.2.2.2.2
set_option maxRecDepth 20000 in
theorem bdL_law_827 : (decode cL_law 827 = .ok (.iadd, 1)) ∧ (decode cL_law 828 = .ok (.iaload, 1)) ∧ (decode cL_law 829 = .ok (.aload_n 0, 1)) ∧ (decode cL_law 830 = .ok (.iload_n 3, 1)) ∧ (decode cL_law 831 = .ok (.bipush 6, 2)) ∧ (decode cL_law 833 = .ok (.iadd, 1)) ∧ (decode cL_law 834 = .ok (.iaload, 1)) ∧ (decode cL_law 835 = .ok (.invokevirtual 67, 3)) ∧ (decode cL_law 838 = .ok (.pop, 1)) ∧ (decode cL_law 839 = .ok (.goto 389, 3)) ∧ (decode cL_law 842 = .ok (.aload_n 1, 1)) ∧ (decode cL_law 843 = .ok (.invokevirtual 68, 3)) := by decide +kernel
theorem dL_law_827 : decode cL_law 827 = .ok (.iadd, 1) := bdL_law_827.1
theorem dL_law_828 : decode cL_law 828 = .ok (.iaload, 1) := bdL_law_827.2.1
theorem dL_law_829 : decode cL_law 829 = .ok (.aload_n 0, 1) := bdL_law_827.2.2.1
theorem dL_law_830 : decode cL_law 830 = .ok (.iload_n 3, 1) := bdL_law_827.2.2.2.1
theorem dL_law_831 : decode cL_law 831 = .ok (.bipush 6, 2) := bdL_law_827.2.2.2.2.1
theorem dL_law_833 : decode cL_law 833 = .ok (.iadd, 1) := bdL_law_827.2.2.2.2.2.1
theorem dL_law_834 : decode cL_law 834 = .ok (.iaload, 1) := bdL_law_827.2.2.2.2.2.2.1
theorem dL_law_835 : decode cL_law 835 = .ok (.invokevirtual 67, 3) := bdL_law_827.2.2.2.2.2.2.2.1
theorem dL_law_838 : decode cL_law 838 = .ok (.pop, 1) := bdL_law_827.2.2.2.2.2.2.2.2.1
theorem dL_law_839 : decode cL_law 839 = .ok (.goto 389, 3) := bdL_law_827.2.2.2.2.2.2.2.2.2.1
theorem dL_law_842 : decode cL_law 842 = .ok (.aload_n 1, 1) := bdL_law_827.2.2.2.2.2.2.2.2.2.2.1
theorem dL_law_843 : decode cL_law 843 = .ok (.invokevirtual 68, 3) := bdL_law_827.2.2.2.2.2.2.2.2.2.2.2
set_option maxRecDepth 20000 in
theorem bdL_law_846 : (decode cL_law 846 = .ok (.pop, 1)) ∧ (decode cL_law 847 = .ok (.aload_n 2, 1)) ∧ (decode cL_law 848 = .ok (.invokevirtual 71, 3)) ∧ (decode cL_law 851 = .ok (.pop, 1)) ∧ (decode cL_law 852 = .ok (.goto 376, 3)) ∧ (decode cL_law 855 = .ok (.aload_n 1, 1)) ∧ (decode cL_law 856 = .ok (.invokevirtual 72, 3)) ∧ (decode cL_law 859 = .ok (.pop, 1)) ∧ (decode cL_law 860 = .ok (.aload_n 2, 1)) ∧ (decode cL_law 861 = .ok (.invokevirtual 75, 3)) ∧ (decode cL_law 864 = .ok (.pop, 1)) ∧ (decode cL_law 865 = .ok (.goto 363, 3)) := by decide +kernel
theorem dL_law_846 : decode cL_law 846 = .ok (.pop, 1) := bdL_law_846.1
theorem dL_law_847 : decode cL_law 847 = .ok (.aload_n 2, 1) := bdL_law_846.2.1
theorem dL_law_848 : decode cL_law 848 = .ok (.invokevirtual 71, 3) := bdL_law_846.2.2.1
theorem dL_law_851 : decode cL_law 851 = .ok (.pop, 1) := bdL_law_846.2.2.2.1
theorem dL_law_852 : decode cL_law 852 = .ok (.goto 376, 3) := bdL_law_846.2.2.2.2.1
theorem dL_law_855 : decode cL_law 855 = .ok (.aload_n 1, 1) := bdL_law_846.2.2.2.2.2.1
theorem dL_law_856 : decode cL_law 856 = .ok (.invokevirtual 72, 3) := bdL_law_846.2.2.2.2.2.2.1
theorem dL_law_859 : decode cL_law 859 = .ok (.pop, 1) := bdL_law_846.2.2.2.2.2.2.2.1
theorem dL_law_860 : decode cL_law 860 = .ok (.aload_n 2, 1) := bdL_law_846.2.2.2.2.2.2.2.2.1
theorem dL_law_861 : decode cL_law 861 = .ok (.invokevirtual 75, 3) := bdL_law_846.2.2.2.2.2.2.2.2.2.1
theorem dL_law_864 : decode cL_law 864 = .ok (.pop, 1) := bdL_law_846.2.2.2.2.2.2.2.2.2.2.1
theorem dL_law_865 : decode cL_law 865 = .ok (.goto 363, 3) := bdL_law_846.2.2.2.2.2.2.2.2.2.2.2
set_option maxRecDepth 20000 in
theorem bdL_law_868 : (decode cL_law 868 = .ok (.aload_n 1, 1)) ∧ (decode cL_law 869 = .ok (.aload_n 0, 1)) ∧ (decode cL_law 870 = .ok (.iload_n 3, 1)) ∧ (decode cL_law 871 = .ok (.iconst 1, 1)) ∧ (decode cL_law 872 = .ok (.iadd, 1)) ∧ (decode cL_law 873 = .ok (.iaload, 1)) ∧ (decode cL_law 874 = .ok (.i2l, 1)) ∧ (decode cL_law 875 = .ok (.bipush 32, 2)) ∧ (decode cL_law 877 = .ok (.lshl, 1)) ∧ (decode cL_law 878 = .ok (.aload_n 0, 1)) ∧ (decode cL_law 879 = .ok (.iload_n 3, 1)) ∧ (decode cL_law 880 = .ok (.iconst 2, 1)) := by decide +kernel
theorem dL_law_868 : decode cL_law 868 = .ok (.aload_n 1, 1) := bdL_law_868.1
theorem dL_law_869 : decode cL_law 869 = .ok (.aload_n 0, 1) := bdL_law_868.2.1
theorem dL_law_870 : decode cL_law 870 = .ok (.iload_n 3, 1) := bdL_law_868.2.2.1
theorem dL_law_871 : decode cL_law 871 = .ok (.iconst 1, 1) := bdL_law_868.2.2.2.1
theorem dL_law_872 : decode cL_law 872 = .ok (.iadd, 1) := bdL_law_868.2.2.2.2.1
theorem dL_law_873 : decode cL_law 873 = .ok (.iaload, 1) := bdL_law_868.2.2.2.2.2.1
theorem dL_law_874 : decode cL_law 874 = .ok (.i2l, 1) := bdL_law_868.2.2.2.2.2.2.1
theorem dL_law_875 : decode cL_law 875 = .ok (.bipush 32, 2) := bdL_law_868.2.2.2.2.2.2.2.1
theorem dL_law_877 : decode cL_law 877 = .ok (.lshl, 1) := bdL_law_868.2.2.2.2.2.2.2.2.1
theorem dL_law_878 : decode cL_law 878 = .ok (.aload_n 0, 1) := bdL_law_868.2.2.2.2.2.2.2.2.2.1
theorem dL_law_879 : decode cL_law 879 = .ok (.iload_n 3, 1) := bdL_law_868.2.2.2.2.2.2.2.2.2.2.1
theorem dL_law_880 : decode cL_law 880 = .ok (.iconst 2, 1) := bdL_law_868.2.2.2.2.2.2.2.2.2.2.2
set_option maxRecDepth 20000 in
theorem bdL_law_881 : (decode cL_law 881 = .ok (.iadd, 1)) ∧ (decode cL_law 882 = .ok (.iaload, 1)) ∧ (decode cL_law 883 = .ok (.i2l, 1)) ∧ (decode cL_law 884 = .ok (.ldc2_w 21, 3)) ∧ (decode cL_law 887 = .ok (.land, 1)) ∧ (decode cL_law 888 = .ok (.lor, 1)) ∧ (decode cL_law 889 = .ok (.aload_n 0, 1)) ∧ (decode cL_law 890 = .ok (.iload_n 3, 1)) ∧ (decode cL_law 891 = .ok (.iconst 3, 1)) ∧ (decode cL_law 892 = .ok (.iadd, 1)) ∧ (decode cL_law 893 = .ok (.iaload, 1)) ∧ (decode cL_law 894 = .ok (.invokevirtual 76, 3)) := by decide +kernel
theorem dL_law_881 : decode cL_law 881 = .ok (.iadd, 1) := bdL_law_881.1
theorem dL_law_882 : decode cL_law 882 = .ok (.iaload, 1) := bdL_law_881.2.1
theorem dL_law_883 : decode cL_law 883 = .ok (.i2l, 1) := bdL_law_881.2.2.1
theorem dL_law_884 : decode cL_law 884 = .ok (.ldc2_w 21, 3) := bdL_law_881.2.2.2.1
theorem dL_law_887 : decode cL_law 887 = .ok (.land, 1) := bdL_law_881.2.2.2.2.1
theorem dL_law_888 : decode cL_law 888 = .ok (.lor, 1) := bdL_law_881.2.2.2.2.2.1
theorem dL_law_889 : decode cL_law 889 = .ok (.aload_n 0, 1) := bdL_law_881.2.2.2.2.2.2.1
theorem dL_law_890 : decode cL_law 890 = .ok (.iload_n 3, 1) := bdL_law_881.2.2.2.2.2.2.2.1
theorem dL_law_891 : decode cL_law 891 = .ok (.iconst 3, 1) := bdL_law_881.2.2.2.2.2.2.2.2.1
theorem dL_law_892 : decode cL_law 892 = .ok (.iadd, 1) := bdL_law_881.2.2.2.2.2.2.2.2.2.1
theorem dL_law_893 : decode cL_law 893 = .ok (.iaload, 1) := bdL_law_881.2.2.2.2.2.2.2.2.2.2.1
theorem dL_law_894 : decode cL_law 894 = .ok (.invokevirtual 76, 3) := bdL_law_881.2.2.2.2.2.2.2.2.2.2.2
set_option maxRecDepth 20000 in
theorem bdL_law_897 : (decode cL_law 897 = .ok (.pop, 1)) ∧ (decode cL_law 898 = .ok (.aload_n 2, 1)) ∧ (decode cL_law 899 = .ok (.aload_n 0, 1)) ∧ (decode cL_law 900 = .ok (.iload_n 3, 1)) ∧ (decode cL_law 901 = .ok (.iconst 1, 1)) ∧ (decode cL_law 902 = .ok (.iadd, 1)) ∧ (decode cL_law 903 = .ok (.iaload, 1)) ∧ (decode cL_law 904 = .ok (.i2l, 1)) ∧ (decode cL_law 905 = .ok (.bipush 32, 2)) ∧ (decode cL_law 907 = .ok (.lshl, 1)) ∧ (decode cL_law 908 = .ok (.aload_n 0, 1)) ∧ (decode cL_law 909 = .ok (.iload_n 3, 1)) := by decide +kernel
theorem dL_law_897 : decode cL_law 897 = .ok (.pop, 1) := bdL_law_897.1
theorem dL_law_898 : decode cL_law 898 = .ok (.aload_n 2, 1) := bdL_law_897.2.1
theorem dL_law_899 : decode cL_law 899 = .ok (.aload_n 0, 1) := bdL_law_897.2.2.1
theorem dL_law_900 : decode cL_law 900 = .ok (.iload_n 3, 1) := bdL_law_897.2.2.2.1
theorem dL_law_901 : decode cL_law 901 = .ok (.iconst 1, 1) := bdL_law_897.2.2.2.2.1
theorem dL_law_902 : decode cL_law 902 = .ok (.iadd, 1) := bdL_law_897.2.2.2.2.2.1
theorem dL_law_903 : decode cL_law 903 = .ok (.iaload, 1) := bdL_law_897.2.2.2.2.2.2.1
theorem dL_law_904 : decode cL_law 904 = .ok (.i2l, 1) := bdL_law_897.2.2.2.2.2.2.2.1
theorem dL_law_905 : decode cL_law 905 = .ok (.bipush 32, 2) := bdL_law_897.2.2.2.2.2.2.2.2.1
theorem dL_law_907 : decode cL_law 907 = .ok (.lshl, 1) := bdL_law_897.2.2.2.2.2.2.2.2.2.1
theorem dL_law_908 : decode cL_law 908 = .ok (.aload_n 0, 1) := bdL_law_897.2.2.2.2.2.2.2.2.2.2.1
theorem dL_law_909 : decode cL_law 909 = .ok (.iload_n 3, 1) := bdL_law_897.2.2.2.2.2.2.2.2.2.2.2
set_option maxRecDepth 20000 in
theorem bdL_law_910 : (decode cL_law 910 = .ok (.iconst 2, 1)) ∧ (decode cL_law 911 = .ok (.iadd, 1)) ∧ (decode cL_law 912 = .ok (.iaload, 1)) ∧ (decode cL_law 913 = .ok (.i2l, 1)) ∧ (decode cL_law 914 = .ok (.ldc2_w 21, 3)) ∧ (decode cL_law 917 = .ok (.land, 1)) ∧ (decode cL_law 918 = .ok (.lor, 1)) ∧ (decode cL_law 919 = .ok (.aload_n 0, 1)) ∧ (decode cL_law 920 = .ok (.iload_n 3, 1)) ∧ (decode cL_law 921 = .ok (.iconst 3, 1)) ∧ (decode cL_law 922 = .ok (.iadd, 1)) ∧ (decode cL_law 923 = .ok (.iaload, 1)) := by decide +kernel
theorem dL_law_910 : decode cL_law 910 = .ok (.iconst 2, 1) := bdL_law_910.1
theorem dL_law_911 : decode cL_law 911 = .ok (.iadd, 1) := bdL_law_910.2.1
theorem dL_law_912 : decode cL_law 912 = .ok (.iaload, 1) := bdL_law_910.2.2.1
theorem dL_law_913 : decode cL_law 913 = .ok (.i2l, 1) := bdL_law_910.2.2.2.1
theorem dL_law_914 : decode cL_law 914 = .ok (.ldc2_w 21, 3) := bdL_law_910.2.2.2.2.1
theorem dL_law_917 : decode cL_law 917 = .ok (.land, 1) := bdL_law_910.2.2.2.2.2.1
theorem dL_law_918 : decode cL_law 918 = .ok (.lor, 1) := bdL_law_910.2.2.2.2.2.2.1
theorem dL_law_919 : decode cL_law 919 = .ok (.aload_n 0, 1) := bdL_law_910.2.2.2.2.2.2.2.1
theorem dL_law_920 : decode cL_law 920 = .ok (.iload_n 3, 1) := bdL_law_910.2.2.2.2.2.2.2.2.1
theorem dL_law_921 : decode cL_law 921 = .ok (.iconst 3, 1) := bdL_law_910.2.2.2.2.2.2.2.2.2.1
theorem dL_law_922 : decode cL_law 922 = .ok (.iadd, 1) := bdL_law_910.2.2.2.2.2.2.2.2.2.2.1
theorem dL_law_923 : decode cL_law 923 = .ok (.iaload, 1) := bdL_law_910.2.2.2.2.2.2.2.2.2.2.2
set_option maxRecDepth 20000 in
theorem bdL_law_924 : (decode cL_law 924 = .ok (.invokevirtual 80, 3)) ∧ (decode cL_law 927 = .ok (.pop, 1)) ∧ (decode cL_law 928 = .ok (.goto 300, 3)) ∧ (decode cL_law 931 = .ok (.aload_n 1, 1)) ∧ (decode cL_law 932 = .ok (.aload_n 0, 1)) ∧ (decode cL_law 933 = .ok (.iload_n 3, 1)) ∧ (decode cL_law 934 = .ok (.iconst 1, 1)) ∧ (decode cL_law 935 = .ok (.iadd, 1)) ∧ (decode cL_law 936 = .ok (.iaload, 1)) ∧ (decode cL_law 937 = .ok (.aload_n 0, 1)) ∧ (decode cL_law 938 = .ok (.iload_n 3, 1)) ∧ (decode cL_law 939 = .ok (.iconst 2, 1)) := by decide +kernel
theorem dL_law_924 : decode cL_law 924 = .ok (.invokevirtual 80, 3) := bdL_law_924.1
theorem dL_law_927 : decode cL_law 927 = .ok (.pop, 1) := bdL_law_924.2.1
theorem dL_law_928 : decode cL_law 928 = .ok (.goto 300, 3) := bdL_law_924.2.2.1
theorem dL_law_931 : decode cL_law 931 = .ok (.aload_n 1, 1) := bdL_law_924.2.2.2.1
theorem dL_law_932 : decode cL_law 932 = .ok (.aload_n 0, 1) := bdL_law_924.2.2.2.2.1
theorem dL_law_933 : decode cL_law 933 = .ok (.iload_n 3, 1) := bdL_law_924.2.2.2.2.2.1
theorem dL_law_934 : decode cL_law 934 = .ok (.iconst 1, 1) := bdL_law_924.2.2.2.2.2.2.1
theorem dL_law_935 : decode cL_law 935 = .ok (.iadd, 1) := bdL_law_924.2.2.2.2.2.2.2.1
theorem dL_law_936 : decode cL_law 936 = .ok (.iaload, 1) := bdL_law_924.2.2.2.2.2.2.2.2.1
theorem dL_law_937 : decode cL_law 937 = .ok (.aload_n 0, 1) := bdL_law_924.2.2.2.2.2.2.2.2.2.1
theorem dL_law_938 : decode cL_law 938 = .ok (.iload_n 3, 1) := bdL_law_924.2.2.2.2.2.2.2.2.2.2.1
theorem dL_law_939 : decode cL_law 939 = .ok (.iconst 2, 1) := bdL_law_924.2.2.2.2.2.2.2.2.2.2.2
set_option maxRecDepth 20000 in
theorem bdL_law_940 : (decode cL_law 940 = .ok (.iadd, 1)) ∧ (decode cL_law 941 = .ok (.iaload, 1)) ∧ (decode cL_law 942 = .ok (.i2l, 1)) ∧ (decode cL_law 943 = .ok (.bipush 32, 2)) ∧ (decode cL_law 945 = .ok (.lshl, 1)) ∧ (decode cL_law 946 = .ok (.aload_n 0, 1)) ∧ (decode cL_law 947 = .ok (.iload_n 3, 1)) ∧ (decode cL_law 948 = .ok (.iconst 3, 1)) ∧ (decode cL_law 949 = .ok (.iadd, 1)) ∧ (decode cL_law 950 = .ok (.iaload, 1)) ∧ (decode cL_law 951 = .ok (.i2l, 1)) ∧ (decode cL_law 952 = .ok (.ldc2_w 21, 3)) := by decide +kernel
theorem dL_law_940 : decode cL_law 940 = .ok (.iadd, 1) := bdL_law_940.1
theorem dL_law_941 : decode cL_law 941 = .ok (.iaload, 1) := bdL_law_940.2.1
theorem dL_law_942 : decode cL_law 942 = .ok (.i2l, 1) := bdL_law_940.2.2.1
theorem dL_law_943 : decode cL_law 943 = .ok (.bipush 32, 2) := bdL_law_940.2.2.2.1
theorem dL_law_945 : decode cL_law 945 = .ok (.lshl, 1) := bdL_law_940.2.2.2.2.1
theorem dL_law_946 : decode cL_law 946 = .ok (.aload_n 0, 1) := bdL_law_940.2.2.2.2.2.1
theorem dL_law_947 : decode cL_law 947 = .ok (.iload_n 3, 1) := bdL_law_940.2.2.2.2.2.2.1
theorem dL_law_948 : decode cL_law 948 = .ok (.iconst 3, 1) := bdL_law_940.2.2.2.2.2.2.2.1
theorem dL_law_949 : decode cL_law 949 = .ok (.iadd, 1) := bdL_law_940.2.2.2.2.2.2.2.2.1
theorem dL_law_950 : decode cL_law 950 = .ok (.iaload, 1) := bdL_law_940.2.2.2.2.2.2.2.2.2.1
theorem dL_law_951 : decode cL_law 951 = .ok (.i2l, 1) := bdL_law_940.2.2.2.2.2.2.2.2.2.2.1
theorem dL_law_952 : decode cL_law 952 = .ok (.ldc2_w 21, 3) := bdL_law_940.2.2.2.2.2.2.2.2.2.2.2
set_option maxRecDepth 20000 in
theorem bdL_law_955 : (decode cL_law 955 = .ok (.land, 1)) ∧ (decode cL_law 956 = .ok (.lor, 1)) ∧ (decode cL_law 957 = .ok (.invokevirtual 81, 3)) ∧ (decode cL_law 960 = .ok (.pop2, 1)) ∧ (decode cL_law 961 = .ok (.aload_n 2, 1)) ∧ (decode cL_law 962 = .ok (.aload_n 0, 1)) ∧ (decode cL_law 963 = .ok (.iload_n 3, 1)) ∧ (decode cL_law 964 = .ok (.iconst 1, 1)) ∧ (decode cL_law 965 = .ok (.iadd, 1)) ∧ (decode cL_law 966 = .ok (.iaload, 1)) ∧ (decode cL_law 967 = .ok (.aload_n 0, 1)) ∧ (decode cL_law 968 = .ok (.iload_n 3, 1)) := by decide +kernel
theorem dL_law_955 : decode cL_law 955 = .ok (.land, 1) := bdL_law_955.1
theorem dL_law_956 : decode cL_law 956 = .ok (.lor, 1) := bdL_law_955.2.1
theorem dL_law_957 : decode cL_law 957 = .ok (.invokevirtual 81, 3) := bdL_law_955.2.2.1
theorem dL_law_960 : decode cL_law 960 = .ok (.pop2, 1) := bdL_law_955.2.2.2.1
theorem dL_law_961 : decode cL_law 961 = .ok (.aload_n 2, 1) := bdL_law_955.2.2.2.2.1
theorem dL_law_962 : decode cL_law 962 = .ok (.aload_n 0, 1) := bdL_law_955.2.2.2.2.2.1
theorem dL_law_963 : decode cL_law 963 = .ok (.iload_n 3, 1) := bdL_law_955.2.2.2.2.2.2.1
theorem dL_law_964 : decode cL_law 964 = .ok (.iconst 1, 1) := bdL_law_955.2.2.2.2.2.2.2.1
theorem dL_law_965 : decode cL_law 965 = .ok (.iadd, 1) := bdL_law_955.2.2.2.2.2.2.2.2.1
theorem dL_law_966 : decode cL_law 966 = .ok (.iaload, 1) := bdL_law_955.2.2.2.2.2.2.2.2.2.1
theorem dL_law_967 : decode cL_law 967 = .ok (.aload_n 0, 1) := bdL_law_955.2.2.2.2.2.2.2.2.2.2.1
theorem dL_law_968 : decode cL_law 968 = .ok (.iload_n 3, 1) := bdL_law_955.2.2.2.2.2.2.2.2.2.2.2
set_option maxRecDepth 20000 in
theorem bdL_law_969 : (decode cL_law 969 = .ok (.iconst 2, 1)) ∧ (decode cL_law 970 = .ok (.iadd, 1)) ∧ (decode cL_law 971 = .ok (.iaload, 1)) ∧ (decode cL_law 972 = .ok (.i2l, 1)) ∧ (decode cL_law 973 = .ok (.bipush 32, 2)) ∧ (decode cL_law 975 = .ok (.lshl, 1)) ∧ (decode cL_law 976 = .ok (.aload_n 0, 1)) ∧ (decode cL_law 977 = .ok (.iload_n 3, 1)) ∧ (decode cL_law 978 = .ok (.iconst 3, 1)) ∧ (decode cL_law 979 = .ok (.iadd, 1)) ∧ (decode cL_law 980 = .ok (.iaload, 1)) ∧ (decode cL_law 981 = .ok (.i2l, 1)) := by decide +kernel
theorem dL_law_969 : decode cL_law 969 = .ok (.iconst 2, 1) := bdL_law_969.1
theorem dL_law_970 : decode cL_law 970 = .ok (.iadd, 1) := bdL_law_969.2.1
theorem dL_law_971 : decode cL_law 971 = .ok (.iaload, 1) := bdL_law_969.2.2.1
theorem dL_law_972 : decode cL_law 972 = .ok (.i2l, 1) := bdL_law_969.2.2.2.1
theorem dL_law_973 : decode cL_law 973 = .ok (.bipush 32, 2) := bdL_law_969.2.2.2.2.1
theorem dL_law_975 : decode cL_law 975 = .ok (.lshl, 1) := bdL_law_969.2.2.2.2.2.1
theorem dL_law_976 : decode cL_law 976 = .ok (.aload_n 0, 1) := bdL_law_969.2.2.2.2.2.2.1
theorem dL_law_977 : decode cL_law 977 = .ok (.iload_n 3, 1) := bdL_law_969.2.2.2.2.2.2.2.1
theorem dL_law_978 : decode cL_law 978 = .ok (.iconst 3, 1) := bdL_law_969.2.2.2.2.2.2.2.2.1
theorem dL_law_979 : decode cL_law 979 = .ok (.iadd, 1) := bdL_law_969.2.2.2.2.2.2.2.2.2.1
theorem dL_law_980 : decode cL_law 980 = .ok (.iaload, 1) := bdL_law_969.2.2.2.2.2.2.2.2.2.2.1
theorem dL_law_981 : decode cL_law 981 = .ok (.i2l, 1) := bdL_law_969.2.2.2.2.2.2.2.2.2.2.2
set_option maxRecDepth 20000 in
theorem bdL_law_982 : (decode cL_law 982 = .ok (.ldc2_w 21, 3)) ∧ (decode cL_law 985 = .ok (.land, 1)) ∧ (decode cL_law 986 = .ok (.lor, 1)) ∧ (decode cL_law 987 = .ok (.invokevirtual 85, 3)) ∧ (decode cL_law 990 = .ok (.pop2, 1)) ∧ (decode cL_law 991 = .ok (.goto 237, 3)) ∧ (decode cL_law 994 = .ok (.aload_n 1, 1)) ∧ (decode cL_law 995 = .ok (.aload_n 0, 1)) ∧ (decode cL_law 996 = .ok (.iload_n 3, 1)) ∧ (decode cL_law 997 = .ok (.iconst 1, 1)) ∧ (decode cL_law 998 = .ok (.iadd, 1)) ∧ (decode cL_law 999 = .ok (.iaload, 1)) := by decide +kernel
theorem dL_law_982 : decode cL_law 982 = .ok (.ldc2_w 21, 3) := bdL_law_982.1
theorem dL_law_985 : decode cL_law 985 = .ok (.land, 1) := bdL_law_982.2.1
theorem dL_law_986 : decode cL_law 986 = .ok (.lor, 1) := bdL_law_982.2.2.1
theorem dL_law_987 : decode cL_law 987 = .ok (.invokevirtual 85, 3) := bdL_law_982.2.2.2.1
theorem dL_law_990 : decode cL_law 990 = .ok (.pop2, 1) := bdL_law_982.2.2.2.2.1
theorem dL_law_991 : decode cL_law 991 = .ok (.goto 237, 3) := bdL_law_982.2.2.2.2.2.1
theorem dL_law_994 : decode cL_law 994 = .ok (.aload_n 1, 1) := bdL_law_982.2.2.2.2.2.2.1
theorem dL_law_995 : decode cL_law 995 = .ok (.aload_n 0, 1) := bdL_law_982.2.2.2.2.2.2.2.1
theorem dL_law_996 : decode cL_law 996 = .ok (.iload_n 3, 1) := bdL_law_982.2.2.2.2.2.2.2.2.1
theorem dL_law_997 : decode cL_law 997 = .ok (.iconst 1, 1) := bdL_law_982.2.2.2.2.2.2.2.2.2.1
theorem dL_law_998 : decode cL_law 998 = .ok (.iadd, 1) := bdL_law_982.2.2.2.2.2.2.2.2.2.2.1
theorem dL_law_999 : decode cL_law 999 = .ok (.iaload, 1) := bdL_law_982.2.2.2.2.2.2.2.2.2.2.2
set_option maxRecDepth 20000 in
theorem bdL_law_1000 : (decode cL_law 1000 = .ok (.invokevirtual 86, 3)) ∧ (decode cL_law 1003 = .ok (.pop, 1)) ∧ (decode cL_law 1004 = .ok (.aload_n 2, 1)) ∧ (decode cL_law 1005 = .ok (.aload_n 0, 1)) ∧ (decode cL_law 1006 = .ok (.iload_n 3, 1)) ∧ (decode cL_law 1007 = .ok (.iconst 1, 1)) ∧ (decode cL_law 1008 = .ok (.iadd, 1)) ∧ (decode cL_law 1009 = .ok (.iaload, 1)) ∧ (decode cL_law 1010 = .ok (.invokevirtual 90, 3)) ∧ (decode cL_law 1013 = .ok (.pop, 1)) ∧ (decode cL_law 1014 = .ok (.goto 214, 3)) ∧ (decode cL_law 1017 = .ok (.aload_n 1, 1)) := by decide +kernel
theorem dL_law_1000 : decode cL_law 1000 = .ok (.invokevirtual 86, 3) := bdL_law_1000.1
theorem dL_law_1003 : decode cL_law 1003 = .ok (.pop, 1) := bdL_law_1000.2.1
theorem dL_law_1004 : decode cL_law 1004 = .ok (.aload_n 2, 1) := bdL_law_1000.2.2.1
theorem dL_law_1005 : decode cL_law 1005 = .ok (.aload_n 0, 1) := bdL_law_1000.2.2.2.1
theorem dL_law_1006 : decode cL_law 1006 = .ok (.iload_n 3, 1) := bdL_law_1000.2.2.2.2.1
theorem dL_law_1007 : decode cL_law 1007 = .ok (.iconst 1, 1) := bdL_law_1000.2.2.2.2.2.1
theorem dL_law_1008 : decode cL_law 1008 = .ok (.iadd, 1) := bdL_law_1000.2.2.2.2.2.2.1
theorem dL_law_1009 : decode cL_law 1009 = .ok (.iaload, 1) := bdL_law_1000.2.2.2.2.2.2.2.1
theorem dL_law_1010 : decode cL_law 1010 = .ok (.invokevirtual 90, 3) := bdL_law_1000.2.2.2.2.2.2.2.2.1
theorem dL_law_1013 : decode cL_law 1013 = .ok (.pop, 1) := bdL_law_1000.2.2.2.2.2.2.2.2.2.1
theorem dL_law_1014 : decode cL_law 1014 = .ok (.goto 214, 3) := bdL_law_1000.2.2.2.2.2.2.2.2.2.2.1
theorem dL_law_1017 : decode cL_law 1017 = .ok (.aload_n 1, 1) := bdL_law_1000.2.2.2.2.2.2.2.2.2.2.2
set_option maxRecDepth 20000 in
theorem bdL_law_1018 : (decode cL_law 1018 = .ok (.aload_n 0, 1)) ∧ (decode cL_law 1019 = .ok (.iload_n 3, 1)) ∧ (decode cL_law 1020 = .ok (.iconst 1, 1)) ∧ (decode cL_law 1021 = .ok (.iadd, 1)) ∧ (decode cL_law 1022 = .ok (.iaload, 1)) ∧ (decode cL_law 1023 = .ok (.invokevirtual 91, 3)) ∧ (decode cL_law 1026 = .ok (.pop, 1)) ∧ (decode cL_law 1027 = .ok (.aload_n 2, 1)) ∧ (decode cL_law 1028 = .ok (.aload_n 0, 1)) ∧ (decode cL_law 1029 = .ok (.iload_n 3, 1)) ∧ (decode cL_law 1030 = .ok (.iconst 1, 1)) ∧ (decode cL_law 1031 = .ok (.iadd, 1)) := by decide +kernel
theorem dL_law_1018 : decode cL_law 1018 = .ok (.aload_n 0, 1) := bdL_law_1018.1
theorem dL_law_1019 : decode cL_law 1019 = .ok (.iload_n 3, 1) := bdL_law_1018.2.1
theorem dL_law_1020 : decode cL_law 1020 = .ok (.iconst 1, 1) := bdL_law_1018.2.2.1
theorem dL_law_1021 : decode cL_law 1021 = .ok (.iadd, 1) := bdL_law_1018.2.2.2.1
theorem dL_law_1022 : decode cL_law 1022 = .ok (.iaload, 1) := bdL_law_1018.2.2.2.2.1
theorem dL_law_1023 : decode cL_law 1023 = .ok (.invokevirtual 91, 3) := bdL_law_1018.2.2.2.2.2.1
theorem dL_law_1026 : decode cL_law 1026 = .ok (.pop, 1) := bdL_law_1018.2.2.2.2.2.2.1
theorem dL_law_1027 : decode cL_law 1027 = .ok (.aload_n 2, 1) := bdL_law_1018.2.2.2.2.2.2.2.1
theorem dL_law_1028 : decode cL_law 1028 = .ok (.aload_n 0, 1) := bdL_law_1018.2.2.2.2.2.2.2.2.1
theorem dL_law_1029 : decode cL_law 1029 = .ok (.iload_n 3, 1) := bdL_law_1018.2.2.2.2.2.2.2.2.2.1
theorem dL_law_1030 : decode cL_law 1030 = .ok (.iconst 1, 1) := bdL_law_1018.2.2.2.2.2.2.2.2.2.2.1
theorem dL_law_1031 : decode cL_law 1031 = .ok (.iadd, 1) := bdL_law_1018.2.2.2.2.2.2.2.2.2.2.2
set_option maxRecDepth 20000 in
theorem bdL_law_1032 : (decode cL_law 1032 = .ok (.iaload, 1)) ∧ (decode cL_law 1033 = .ok (.invokevirtual 94, 3)) ∧ (decode cL_law 1036 = .ok (.pop, 1)) ∧ (decode cL_law 1037 = .ok (.goto 191, 3)) ∧ (decode cL_law 1040 = .ok (.aload_n 1, 1)) ∧ (decode cL_law 1041 = .ok (.aload_n 0, 1)) ∧ (decode cL_law 1042 = .ok (.iload_n 3, 1)) ∧ (decode cL_law 1043 = .ok (.iconst 1, 1)) ∧ (decode cL_law 1044 = .ok (.iadd, 1)) ∧ (decode cL_law 1045 = .ok (.iaload, 1)) ∧ (decode cL_law 1046 = .ok (.aload_n 0, 1)) ∧ (decode cL_law 1047 = .ok (.iload_n 3, 1)) := by decide +kernel
theorem dL_law_1032 : decode cL_law 1032 = .ok (.iaload, 1) := bdL_law_1032.1
theorem dL_law_1033 : decode cL_law 1033 = .ok (.invokevirtual 94, 3) := bdL_law_1032.2.1
theorem dL_law_1036 : decode cL_law 1036 = .ok (.pop, 1) := bdL_law_1032.2.2.1
theorem dL_law_1037 : decode cL_law 1037 = .ok (.goto 191, 3) := bdL_law_1032.2.2.2.1
theorem dL_law_1040 : decode cL_law 1040 = .ok (.aload_n 1, 1) := bdL_law_1032.2.2.2.2.1
theorem dL_law_1041 : decode cL_law 1041 = .ok (.aload_n 0, 1) := bdL_law_1032.2.2.2.2.2.1
theorem dL_law_1042 : decode cL_law 1042 = .ok (.iload_n 3, 1) := bdL_law_1032.2.2.2.2.2.2.1
theorem dL_law_1043 : decode cL_law 1043 = .ok (.iconst 1, 1) := bdL_law_1032.2.2.2.2.2.2.2.1
theorem dL_law_1044 : decode cL_law 1044 = .ok (.iadd, 1) := bdL_law_1032.2.2.2.2.2.2.2.2.1
theorem dL_law_1045 : decode cL_law 1045 = .ok (.iaload, 1) := bdL_law_1032.2.2.2.2.2.2.2.2.2.1
theorem dL_law_1046 : decode cL_law 1046 = .ok (.aload_n 0, 1) := bdL_law_1032.2.2.2.2.2.2.2.2.2.2.1
theorem dL_law_1047 : decode cL_law 1047 = .ok (.iload_n 3, 1) := bdL_law_1032.2.2.2.2.2.2.2.2.2.2.2
set_option maxRecDepth 20000 in
theorem bdL_law_1048 : (decode cL_law 1048 = .ok (.iconst 2, 1)) ∧ (decode cL_law 1049 = .ok (.iadd, 1)) ∧ (decode cL_law 1050 = .ok (.iaload, 1)) ∧ (decode cL_law 1051 = .ok (.invokevirtual 95, 3)) ∧ (decode cL_law 1054 = .ok (.pop, 1)) ∧ (decode cL_law 1055 = .ok (.aload_n 2, 1)) ∧ (decode cL_law 1056 = .ok (.aload_n 0, 1)) ∧ (decode cL_law 1057 = .ok (.iload_n 3, 1)) ∧ (decode cL_law 1058 = .ok (.iconst 1, 1)) ∧ (decode cL_law 1059 = .ok (.iadd, 1)) ∧ (decode cL_law 1060 = .ok (.iaload, 1)) ∧ (decode cL_law 1061 = .ok (.aload_n 0, 1)) := by decide +kernel
theorem dL_law_1048 : decode cL_law 1048 = .ok (.iconst 2, 1) := bdL_law_1048.1
theorem dL_law_1049 : decode cL_law 1049 = .ok (.iadd, 1) := bdL_law_1048.2.1
theorem dL_law_1050 : decode cL_law 1050 = .ok (.iaload, 1) := bdL_law_1048.2.2.1
theorem dL_law_1051 : decode cL_law 1051 = .ok (.invokevirtual 95, 3) := bdL_law_1048.2.2.2.1
theorem dL_law_1054 : decode cL_law 1054 = .ok (.pop, 1) := bdL_law_1048.2.2.2.2.1
theorem dL_law_1055 : decode cL_law 1055 = .ok (.aload_n 2, 1) := bdL_law_1048.2.2.2.2.2.1
theorem dL_law_1056 : decode cL_law 1056 = .ok (.aload_n 0, 1) := bdL_law_1048.2.2.2.2.2.2.1
theorem dL_law_1057 : decode cL_law 1057 = .ok (.iload_n 3, 1) := bdL_law_1048.2.2.2.2.2.2.2.1
theorem dL_law_1058 : decode cL_law 1058 = .ok (.iconst 1, 1) := bdL_law_1048.2.2.2.2.2.2.2.2.1
theorem dL_law_1059 : decode cL_law 1059 = .ok (.iadd, 1) := bdL_law_1048.2.2.2.2.2.2.2.2.2.1
theorem dL_law_1060 : decode cL_law 1060 = .ok (.iaload, 1) := bdL_law_1048.2.2.2.2.2.2.2.2.2.2.1
theorem dL_law_1061 : decode cL_law 1061 = .ok (.aload_n 0, 1) := bdL_law_1048.2.2.2.2.2.2.2.2.2.2.2
set_option maxRecDepth 20000 in
theorem bdL_law_1062 : (decode cL_law 1062 = .ok (.iload_n 3, 1)) ∧ (decode cL_law 1063 = .ok (.iconst 2, 1)) ∧ (decode cL_law 1064 = .ok (.iadd, 1)) ∧ (decode cL_law 1065 = .ok (.iaload, 1)) ∧ (decode cL_law 1066 = .ok (.invokevirtual 99, 3)) ∧ (decode cL_law 1069 = .ok (.pop, 1)) ∧ (decode cL_law 1070 = .ok (.goto 158, 3)) ∧ (decode cL_law 1073 = .ok (.aload_n 1, 1)) ∧ (decode cL_law 1074 = .ok (.aload_n 0, 1)) ∧ (decode cL_law 1075 = .ok (.iload_n 3, 1)) ∧ (decode cL_law 1076 = .ok (.iconst 1, 1)) ∧ (decode cL_law 1077 = .ok (.iadd, 1)) := by decide +kernel
theorem dL_law_1062 : decode cL_law 1062 = .ok (.iload_n 3, 1) := bdL_law_1062.1
theorem dL_law_1063 : decode cL_law 1063 = .ok (.iconst 2, 1) := bdL_law_1062.2.1
theorem dL_law_1064 : decode cL_law 1064 = .ok (.iadd, 1) := bdL_law_1062.2.2.1
theorem dL_law_1065 : decode cL_law 1065 = .ok (.iaload, 1) := bdL_law_1062.2.2.2.1
theorem dL_law_1066 : decode cL_law 1066 = .ok (.invokevirtual 99, 3) := bdL_law_1062.2.2.2.2.1
theorem dL_law_1069 : decode cL_law 1069 = .ok (.pop, 1) := bdL_law_1062.2.2.2.2.2.1
theorem dL_law_1070 : decode cL_law 1070 = .ok (.goto 158, 3) := bdL_law_1062.2.2.2.2.2.2.1
theorem dL_law_1073 : decode cL_law 1073 = .ok (.aload_n 1, 1) := bdL_law_1062.2.2.2.2.2.2.2.1
theorem dL_law_1074 : decode cL_law 1074 = .ok (.aload_n 0, 1) := bdL_law_1062.2.2.2.2.2.2.2.2.1
theorem dL_law_1075 : decode cL_law 1075 = .ok (.iload_n 3, 1) := bdL_law_1062.2.2.2.2.2.2.2.2.2.1
theorem dL_law_1076 : decode cL_law 1076 = .ok (.iconst 1, 1) := bdL_law_1062.2.2.2.2.2.2.2.2.2.2.1
theorem dL_law_1077 : decode cL_law 1077 = .ok (.iadd, 1) := bdL_law_1062.2.2.2.2.2.2.2.2.2.2.2
set_option maxRecDepth 20000 in
theorem bdL_law_1078 : (decode cL_law 1078 = .ok (.iaload, 1)) ∧ (decode cL_law 1079 = .ok (.aload_n 0, 1)) ∧ (decode cL_law 1080 = .ok (.iload_n 3, 1)) ∧ (decode cL_law 1081 = .ok (.iconst 2, 1)) ∧ (decode cL_law 1082 = .ok (.iadd, 1)) ∧ (decode cL_law 1083 = .ok (.iaload, 1)) ∧ (decode cL_law 1084 = .ok (.invokevirtual 100, 3)) ∧ (decode cL_law 1087 = .ok (.pop, 1)) ∧ (decode cL_law 1088 = .ok (.aload_n 2, 1)) ∧ (decode cL_law 1089 = .ok (.aload_n 0, 1)) ∧ (decode cL_law 1090 = .ok (.iload_n 3, 1)) ∧ (decode cL_law 1091 = .ok (.iconst 1, 1)) := by decide +kernel
theorem dL_law_1078 : decode cL_law 1078 = .ok (.iaload, 1) := bdL_law_1078.1
theorem dL_law_1079 : decode cL_law 1079 = .ok (.aload_n 0, 1) := bdL_law_1078.2.1
theorem dL_law_1080 : decode cL_law 1080 = .ok (.iload_n 3, 1) := bdL_law_1078.2.2.1
theorem dL_law_1081 : decode cL_law 1081 = .ok (.iconst 2, 1) := bdL_law_1078.2.2.2.1
theorem dL_law_1082 : decode cL_law 1082 = .ok (.iadd, 1) := bdL_law_1078.2.2.2.2.1
theorem dL_law_1083 : decode cL_law 1083 = .ok (.iaload, 1) := bdL_law_1078.2.2.2.2.2.1
theorem dL_law_1084 : decode cL_law 1084 = .ok (.invokevirtual 100, 3) := bdL_law_1078.2.2.2.2.2.2.1
theorem dL_law_1087 : decode cL_law 1087 = .ok (.pop, 1) := bdL_law_1078.2.2.2.2.2.2.2.1
theorem dL_law_1088 : decode cL_law 1088 = .ok (.aload_n 2, 1) := bdL_law_1078.2.2.2.2.2.2.2.2.1
theorem dL_law_1089 : decode cL_law 1089 = .ok (.aload_n 0, 1) := bdL_law_1078.2.2.2.2.2.2.2.2.2.1
theorem dL_law_1090 : decode cL_law 1090 = .ok (.iload_n 3, 1) := bdL_law_1078.2.2.2.2.2.2.2.2.2.2.1
theorem dL_law_1091 : decode cL_law 1091 = .ok (.iconst 1, 1) := bdL_law_1078.2.2.2.2.2.2.2.2.2.2.2
set_option maxRecDepth 20000 in
theorem bdL_law_1092 : (decode cL_law 1092 = .ok (.iadd, 1)) ∧ (decode cL_law 1093 = .ok (.iaload, 1)) ∧ (decode cL_law 1094 = .ok (.aload_n 0, 1)) ∧ (decode cL_law 1095 = .ok (.iload_n 3, 1)) ∧ (decode cL_law 1096 = .ok (.iconst 2, 1)) ∧ (decode cL_law 1097 = .ok (.iadd, 1)) ∧ (decode cL_law 1098 = .ok (.iaload, 1)) ∧ (decode cL_law 1099 = .ok (.invokevirtual 103, 3)) ∧ (decode cL_law 1102 = .ok (.pop, 1)) ∧ (decode cL_law 1103 = .ok (.goto 125, 3)) ∧ (decode cL_law 1106 = .ok (.aload_n 1, 1)) ∧ (decode cL_law 1107 = .ok (.aload_n 0, 1)) := by decide +kernel
theorem dL_law_1092 : decode cL_law 1092 = .ok (.iadd, 1) := bdL_law_1092.1
theorem dL_law_1093 : decode cL_law 1093 = .ok (.iaload, 1) := bdL_law_1092.2.1
theorem dL_law_1094 : decode cL_law 1094 = .ok (.aload_n 0, 1) := bdL_law_1092.2.2.1
theorem dL_law_1095 : decode cL_law 1095 = .ok (.iload_n 3, 1) := bdL_law_1092.2.2.2.1
theorem dL_law_1096 : decode cL_law 1096 = .ok (.iconst 2, 1) := bdL_law_1092.2.2.2.2.1
theorem dL_law_1097 : decode cL_law 1097 = .ok (.iadd, 1) := bdL_law_1092.2.2.2.2.2.1
theorem dL_law_1098 : decode cL_law 1098 = .ok (.iaload, 1) := bdL_law_1092.2.2.2.2.2.2.1
theorem dL_law_1099 : decode cL_law 1099 = .ok (.invokevirtual 103, 3) := bdL_law_1092.2.2.2.2.2.2.2.1
theorem dL_law_1102 : decode cL_law 1102 = .ok (.pop, 1) := bdL_law_1092.2.2.2.2.2.2.2.2.1
theorem dL_law_1103 : decode cL_law 1103 = .ok (.goto 125, 3) := bdL_law_1092.2.2.2.2.2.2.2.2.2.1
theorem dL_law_1106 : decode cL_law 1106 = .ok (.aload_n 1, 1) := bdL_law_1092.2.2.2.2.2.2.2.2.2.2.1
theorem dL_law_1107 : decode cL_law 1107 = .ok (.aload_n 0, 1) := bdL_law_1092.2.2.2.2.2.2.2.2.2.2.2
set_option maxRecDepth 20000 in
theorem bdL_law_1108 : (decode cL_law 1108 = .ok (.iload_n 3, 1)) ∧ (decode cL_law 1109 = .ok (.iconst 1, 1)) ∧ (decode cL_law 1110 = .ok (.iadd, 1)) ∧ (decode cL_law 1111 = .ok (.iaload, 1)) ∧ (decode cL_law 1112 = .ok (.invokevirtual 104, 3)) ∧ (decode cL_law 1115 = .ok (.pop, 1)) ∧ (decode cL_law 1116 = .ok (.aload_n 2, 1)) ∧ (decode cL_law 1117 = .ok (.aload_n 0, 1)) ∧ (decode cL_law 1118 = .ok (.iload_n 3, 1)) ∧ (decode cL_law 1119 = .ok (.iconst 1, 1)) ∧ (decode cL_law 1120 = .ok (.iadd, 1)) ∧ (decode cL_law 1121 = .ok (.iaload, 1)) := by decide +kernel
theorem dL_law_1108 : decode cL_law 1108 = .ok (.iload_n 3, 1) := bdL_law_1108.1
theorem dL_law_1109 : decode cL_law 1109 = .ok (.iconst 1, 1) := bdL_law_1108.2.1
theorem dL_law_1110 : decode cL_law 1110 = .ok (.iadd, 1) := bdL_law_1108.2.2.1
theorem dL_law_1111 : decode cL_law 1111 = .ok (.iaload, 1) := bdL_law_1108.2.2.2.1
theorem dL_law_1112 : decode cL_law 1112 = .ok (.invokevirtual 104, 3) := bdL_law_1108.2.2.2.2.1
theorem dL_law_1115 : decode cL_law 1115 = .ok (.pop, 1) := bdL_law_1108.2.2.2.2.2.1
theorem dL_law_1116 : decode cL_law 1116 = .ok (.aload_n 2, 1) := bdL_law_1108.2.2.2.2.2.2.1
theorem dL_law_1117 : decode cL_law 1117 = .ok (.aload_n 0, 1) := bdL_law_1108.2.2.2.2.2.2.2.1
theorem dL_law_1118 : decode cL_law 1118 = .ok (.iload_n 3, 1) := bdL_law_1108.2.2.2.2.2.2.2.2.1
theorem dL_law_1119 : decode cL_law 1119 = .ok (.iconst 1, 1) := bdL_law_1108.2.2.2.2.2.2.2.2.2.1
theorem dL_law_1120 : decode cL_law 1120 = .ok (.iadd, 1) := bdL_law_1108.2.2.2.2.2.2.2.2.2.2.1
theorem dL_law_1121 : decode cL_law 1121 = .ok (.iaload, 1) := bdL_law_1108.2.2.2.2.2.2.2.2.2.2.2
set_option maxRecDepth 20000 in
theorem bdL_law_1122 : (decode cL_law 1122 = .ok (.invokevirtual 107, 3)) ∧ (decode cL_law 1125 = .ok (.pop, 1)) ∧ (decode cL_law 1126 = .ok (.goto 102, 3)) ∧ (decode cL_law 1129 = .ok (.aload_n 1, 1)) ∧ (decode cL_law 1130 = .ok (.aload_n 0, 1)) ∧ (decode cL_law 1131 = .ok (.iload_n 3, 1)) ∧ (decode cL_law 1132 = .ok (.iconst 1, 1)) ∧ (decode cL_law 1133 = .ok (.iadd, 1)) ∧ (decode cL_law 1134 = .ok (.iaload, 1)) ∧ (decode cL_law 1135 = .ok (.aload_n 0, 1)) ∧ (decode cL_law 1136 = .ok (.iload_n 3, 1)) ∧ (decode cL_law 1137 = .ok (.iconst 2, 1)) := by decide +kernel
theorem dL_law_1122 : decode cL_law 1122 = .ok (.invokevirtual 107, 3) := bdL_law_1122.1
theorem dL_law_1125 : decode cL_law 1125 = .ok (.pop, 1) := bdL_law_1122.2.1
theorem dL_law_1126 : decode cL_law 1126 = .ok (.goto 102, 3) := bdL_law_1122.2.2.1
theorem dL_law_1129 : decode cL_law 1129 = .ok (.aload_n 1, 1) := bdL_law_1122.2.2.2.1
theorem dL_law_1130 : decode cL_law 1130 = .ok (.aload_n 0, 1) := bdL_law_1122.2.2.2.2.1
theorem dL_law_1131 : decode cL_law 1131 = .ok (.iload_n 3, 1) := bdL_law_1122.2.2.2.2.2.1
theorem dL_law_1132 : decode cL_law 1132 = .ok (.iconst 1, 1) := bdL_law_1122.2.2.2.2.2.2.1
theorem dL_law_1133 : decode cL_law 1133 = .ok (.iadd, 1) := bdL_law_1122.2.2.2.2.2.2.2.1
theorem dL_law_1134 : decode cL_law 1134 = .ok (.iaload, 1) := bdL_law_1122.2.2.2.2.2.2.2.2.1
theorem dL_law_1135 : decode cL_law 1135 = .ok (.aload_n 0, 1) := bdL_law_1122.2.2.2.2.2.2.2.2.2.1
theorem dL_law_1136 : decode cL_law 1136 = .ok (.iload_n 3, 1) := bdL_law_1122.2.2.2.2.2.2.2.2.2.2.1
theorem dL_law_1137 : decode cL_law 1137 = .ok (.iconst 2, 1) := bdL_law_1122.2.2.2.2.2.2.2.2.2.2.2
set_option maxRecDepth 20000 in
theorem bdL_law_1138 : (decode cL_law 1138 = .ok (.iadd, 1)) ∧ (decode cL_law 1139 = .ok (.iaload, 1)) ∧ (decode cL_law 1140 = .ok (.invokevirtual 108, 3)) ∧ (decode cL_law 1143 = .ok (.pop, 1)) ∧ (decode cL_law 1144 = .ok (.aload_n 2, 1)) ∧ (decode cL_law 1145 = .ok (.aload_n 0, 1)) ∧ (decode cL_law 1146 = .ok (.iload_n 3, 1)) ∧ (decode cL_law 1147 = .ok (.iconst 1, 1)) ∧ (decode cL_law 1148 = .ok (.iadd, 1)) ∧ (decode cL_law 1149 = .ok (.iaload, 1)) ∧ (decode cL_law 1150 = .ok (.aload_n 0, 1)) ∧ (decode cL_law 1151 = .ok (.iload_n 3, 1)) := by decide +kernel
theorem dL_law_1138 : decode cL_law 1138 = .ok (.iadd, 1) := bdL_law_1138.1
theorem dL_law_1139 : decode cL_law 1139 = .ok (.iaload, 1) := bdL_law_1138.2.1
theorem dL_law_1140 : decode cL_law 1140 = .ok (.invokevirtual 108, 3) := bdL_law_1138.2.2.1
theorem dL_law_1143 : decode cL_law 1143 = .ok (.pop, 1) := bdL_law_1138.2.2.2.1
theorem dL_law_1144 : decode cL_law 1144 = .ok (.aload_n 2, 1) := bdL_law_1138.2.2.2.2.1
theorem dL_law_1145 : decode cL_law 1145 = .ok (.aload_n 0, 1) := bdL_law_1138.2.2.2.2.2.1
theorem dL_law_1146 : decode cL_law 1146 = .ok (.iload_n 3, 1) := bdL_law_1138.2.2.2.2.2.2.1
theorem dL_law_1147 : decode cL_law 1147 = .ok (.iconst 1, 1) := bdL_law_1138.2.2.2.2.2.2.2.1
theorem dL_law_1148 : decode cL_law 1148 = .ok (.iadd, 1) := bdL_law_1138.2.2.2.2.2.2.2.2.1
theorem dL_law_1149 : decode cL_law 1149 = .ok (.iaload, 1) := bdL_law_1138.2.2.2.2.2.2.2.2.2.1
theorem dL_law_1150 : decode cL_law 1150 = .ok (.aload_n 0, 1) := bdL_law_1138.2.2.2.2.2.2.2.2.2.2.1
theorem dL_law_1151 : decode cL_law 1151 = .ok (.iload_n 3, 1) := bdL_law_1138.2.2.2.2.2.2.2.2.2.2.2
set_option maxRecDepth 20000 in
theorem bdL_law_1152 : (decode cL_law 1152 = .ok (.iconst 2, 1)) ∧ (decode cL_law 1153 = .ok (.iadd, 1)) ∧ (decode cL_law 1154 = .ok (.iaload, 1)) ∧ (decode cL_law 1155 = .ok (.invokevirtual 111, 3)) ∧ (decode cL_law 1158 = .ok (.pop, 1)) ∧ (decode cL_law 1159 = .ok (.goto 69, 3)) ∧ (decode cL_law 1162 = .ok (.aload_n 1, 1)) ∧ (decode cL_law 1163 = .ok (.aload_n 0, 1)) ∧ (decode cL_law 1164 = .ok (.iload_n 3, 1)) ∧ (decode cL_law 1165 = .ok (.iconst 1, 1)) ∧ (decode cL_law 1166 = .ok (.iadd, 1)) ∧ (decode cL_law 1167 = .ok (.iaload, 1)) := by decide +kernel
theorem dL_law_1152 : decode cL_law 1152 = .ok (.iconst 2, 1) := bdL_law_1152.1
theorem dL_law_1153 : decode cL_law 1153 = .ok (.iadd, 1) := bdL_law_1152.2.1
theorem dL_law_1154 : decode cL_law 1154 = .ok (.iaload, 1) := bdL_law_1152.2.2.1
theorem dL_law_1155 : decode cL_law 1155 = .ok (.invokevirtual 111, 3) := bdL_law_1152.2.2.2.1
theorem dL_law_1158 : decode cL_law 1158 = .ok (.pop, 1) := bdL_law_1152.2.2.2.2.1
theorem dL_law_1159 : decode cL_law 1159 = .ok (.goto 69, 3) := bdL_law_1152.2.2.2.2.2.1
theorem dL_law_1162 : decode cL_law 1162 = .ok (.aload_n 1, 1) := bdL_law_1152.2.2.2.2.2.2.1
theorem dL_law_1163 : decode cL_law 1163 = .ok (.aload_n 0, 1) := bdL_law_1152.2.2.2.2.2.2.2.1
theorem dL_law_1164 : decode cL_law 1164 = .ok (.iload_n 3, 1) := bdL_law_1152.2.2.2.2.2.2.2.2.1
theorem dL_law_1165 : decode cL_law 1165 = .ok (.iconst 1, 1) := bdL_law_1152.2.2.2.2.2.2.2.2.2.1
theorem dL_law_1166 : decode cL_law 1166 = .ok (.iadd, 1) := bdL_law_1152.2.2.2.2.2.2.2.2.2.2.1
theorem dL_law_1167 : decode cL_law 1167 = .ok (.iaload, 1) := bdL_law_1152.2.2.2.2.2.2.2.2.2.2.2
set_option maxRecDepth 20000 in
theorem bdL_law_1168 : (decode cL_law 1168 = .ok (.aload_n 0, 1)) ∧ (decode cL_law 1169 = .ok (.iload_n 3, 1)) ∧ (decode cL_law 1170 = .ok (.iconst 2, 1)) ∧ (decode cL_law 1171 = .ok (.iadd, 1)) ∧ (decode cL_law 1172 = .ok (.iaload, 1)) ∧ (decode cL_law 1173 = .ok (.aload_n 0, 1)) ∧ (decode cL_law 1174 = .ok (.iload_n 3, 1)) ∧ (decode cL_law 1175 = .ok (.iconst 3, 1)) ∧ (decode cL_law 1176 = .ok (.iadd, 1)) ∧ (decode cL_law 1177 = .ok (.iaload, 1)) ∧ (decode cL_law 1178 = .ok (.invokevirtual 112, 3)) ∧ (decode cL_law 1181 = .ok (.pop, 1)) := by decide +kernel
theorem dL_law_1168 : decode cL_law 1168 = .ok (.aload_n 0, 1) := bdL_law_1168.1
theorem dL_law_1169 : decode cL_law 1169 = .ok (.iload_n 3, 1) := bdL_law_1168.2.1
theorem dL_law_1170 : decode cL_law 1170 = .ok (.iconst 2, 1) := bdL_law_1168.2.2.1
theorem dL_law_1171 : decode cL_law 1171 = .ok (.iadd, 1) := bdL_law_1168.2.2.2.1
theorem dL_law_1172 : decode cL_law 1172 = .ok (.iaload, 1) := bdL_law_1168.2.2.2.2.1
theorem dL_law_1173 : decode cL_law 1173 = .ok (.aload_n 0, 1) := bdL_law_1168.2.2.2.2.2.1
theorem dL_law_1174 : decode cL_law 1174 = .ok (.iload_n 3, 1) := bdL_law_1168.2.2.2.2.2.2.1
theorem dL_law_1175 : decode cL_law 1175 = .ok (.iconst 3, 1) := bdL_law_1168.2.2.2.2.2.2.2.1
theorem dL_law_1176 : decode cL_law 1176 = .ok (.iadd, 1) := bdL_law_1168.2.2.2.2.2.2.2.2.1
theorem dL_law_1177 : decode cL_law 1177 = .ok (.iaload, 1) := bdL_law_1168.2.2.2.2.2.2.2.2.2.1
theorem dL_law_1178 : decode cL_law 1178 = .ok (.invokevirtual 112, 3) := bdL_law_1168.2.2.2.2.2.2.2.2.2.2.1
theorem dL_law_1181 : decode cL_law 1181 = .ok (.pop, 1) := bdL_law_1168.2.2.2.2.2.2.2.2.2.2.2
set_option maxRecDepth 20000 in
theorem bdL_law_1182 : (decode cL_law 1182 = .ok (.aload_n 2, 1)) ∧ (decode cL_law 1183 = .ok (.aload_n 0, 1)) ∧ (decode cL_law 1184 = .ok (.iload_n 3, 1)) ∧ (decode cL_law 1185 = .ok (.iconst 1, 1)) ∧ (decode cL_law 1186 = .ok (.iadd, 1)) ∧ (decode cL_law 1187 = .ok (.iaload, 1)) ∧ (decode cL_law 1188 = .ok (.aload_n 0, 1)) ∧ (decode cL_law 1189 = .ok (.iload_n 3, 1)) ∧ (decode cL_law 1190 = .ok (.iconst 2, 1)) ∧ (decode cL_law 1191 = .ok (.iadd, 1)) ∧ (decode cL_law 1192 = .ok (.iaload, 1)) ∧ (decode cL_law 1193 = .ok (.aload_n 0, 1)) := by decide +kernel
theorem dL_law_1182 : decode cL_law 1182 = .ok (.aload_n 2, 1) := bdL_law_1182.1
theorem dL_law_1183 : decode cL_law 1183 = .ok (.aload_n 0, 1) := bdL_law_1182.2.1
theorem dL_law_1184 : decode cL_law 1184 = .ok (.iload_n 3, 1) := bdL_law_1182.2.2.1
theorem dL_law_1185 : decode cL_law 1185 = .ok (.iconst 1, 1) := bdL_law_1182.2.2.2.1
theorem dL_law_1186 : decode cL_law 1186 = .ok (.iadd, 1) := bdL_law_1182.2.2.2.2.1
theorem dL_law_1187 : decode cL_law 1187 = .ok (.iaload, 1) := bdL_law_1182.2.2.2.2.2.1
theorem dL_law_1188 : decode cL_law 1188 = .ok (.aload_n 0, 1) := bdL_law_1182.2.2.2.2.2.2.1
theorem dL_law_1189 : decode cL_law 1189 = .ok (.iload_n 3, 1) := bdL_law_1182.2.2.2.2.2.2.2.1
theorem dL_law_1190 : decode cL_law 1190 = .ok (.iconst 2, 1) := bdL_law_1182.2.2.2.2.2.2.2.2.1
theorem dL_law_1191 : decode cL_law 1191 = .ok (.iadd, 1) := bdL_law_1182.2.2.2.2.2.2.2.2.2.1
theorem dL_law_1192 : decode cL_law 1192 = .ok (.iaload, 1) := bdL_law_1182.2.2.2.2.2.2.2.2.2.2.1
theorem dL_law_1193 : decode cL_law 1193 = .ok (.aload_n 0, 1) := bdL_law_1182.2.2.2.2.2.2.2.2.2.2.2
set_option maxRecDepth 20000 in
theorem bdL_law_1194 : (decode cL_law 1194 = .ok (.iload_n 3, 1)) ∧ (decode cL_law 1195 = .ok (.iconst 3, 1)) ∧ (decode cL_law 1196 = .ok (.iadd, 1)) ∧ (decode cL_law 1197 = .ok (.iaload, 1)) ∧ (decode cL_law 1198 = .ok (.invokevirtual 116, 3)) ∧ (decode cL_law 1201 = .ok (.pop, 1)) ∧ (decode cL_law 1202 = .ok (.goto 26, 3)) ∧ (decode cL_law 1205 = .ok (.aload_n 1, 1)) ∧ (decode cL_law 1206 = .ok (.aload_n 0, 1)) ∧ (decode cL_law 1207 = .ok (.iload_n 3, 1)) ∧ (decode cL_law 1208 = .ok (.iconst 1, 1)) ∧ (decode cL_law 1209 = .ok (.iadd, 1)) := by decide +kernel
theorem dL_law_1194 : decode cL_law 1194 = .ok (.iload_n 3, 1) := bdL_law_1194.1
theorem dL_law_1195 : decode cL_law 1195 = .ok (.iconst 3, 1) := bdL_law_1194.2.1
theorem dL_law_1196 : decode cL_law 1196 = .ok (.iadd, 1) := bdL_law_1194.2.2.1
theorem dL_law_1197 : decode cL_law 1197 = .ok (.iaload, 1) := bdL_law_1194.2.2.2.1
theorem dL_law_1198 : decode cL_law 1198 = .ok (.invokevirtual 116, 3) := bdL_law_1194.2.2.2.2.1
theorem dL_law_1201 : decode cL_law 1201 = .ok (.pop, 1) := bdL_law_1194.2.2.2.2.2.1
theorem dL_law_1202 : decode cL_law 1202 = .ok (.goto 26, 3) := bdL_law_1194.2.2.2.2.2.2.1
theorem dL_law_1205 : decode cL_law 1205 = .ok (.aload_n 1, 1) := bdL_law_1194.2.2.2.2.2.2.2.1
theorem dL_law_1206 : decode cL_law 1206 = .ok (.aload_n 0, 1) := bdL_law_1194.2.2.2.2.2.2.2.2.1
theorem dL_law_1207 : decode cL_law 1207 = .ok (.iload_n 3, 1) := bdL_law_1194.2.2.2.2.2.2.2.2.2.1
theorem dL_law_1208 : decode cL_law 1208 = .ok (.iconst 1, 1) := bdL_law_1194.2.2.2.2.2.2.2.2.2.2.1
theorem dL_law_1209 : decode cL_law 1209 = .ok (.iadd, 1) := bdL_law_1194.2.2.2.2.2.2.2.2.2.2.2
set_option maxRecDepth 20000 in
theorem bdL_law_1210 : (decode cL_law 1210 = .ok (.iaload, 1)) ∧ (decode cL_law 1211 = .ok (.invokevirtual 117, 3)) ∧ (decode cL_law 1214 = .ok (.pop, 1)) ∧ (decode cL_law 1215 = .ok (.aload_n 2, 1)) ∧ (decode cL_law 1216 = .ok (.aload_n 0, 1)) ∧ (decode cL_law 1217 = .ok (.iload_n 3, 1)) ∧ (decode cL_law 1218 = .ok (.iconst 1, 1)) ∧ (decode cL_law 1219 = .ok (.iadd, 1)) ∧ (decode cL_law 1220 = .ok (.iaload, 1)) ∧ (decode cL_law 1221 = .ok (.invokevirtual 120, 3)) ∧ (decode cL_law 1224 = .ok (.pop, 1)) ∧ (decode cL_law 1225 = .ok (.goto 3, 3)) := by decide +kernel
theorem dL_law_1210 : decode cL_law 1210 = .ok (.iaload, 1) := bdL_law_1210.1
theorem dL_law_1211 : decode cL_law 1211 = .ok (.invokevirtual 117, 3) := bdL_law_1210.2.1
theorem dL_law_1214 : decode cL_law 1214 = .ok (.pop, 1) := bdL_law_1210.2.2.1
theorem dL_law_1215 : decode cL_law 1215 = .ok (.aload_n 2, 1) := bdL_law_1210.2.2.2.1
theorem dL_law_1216 : decode cL_law 1216 = .ok (.aload_n 0, 1) := bdL_law_1210.2.2.2.2.1
theorem dL_law_1217 : decode cL_law 1217 = .ok (.iload_n 3, 1) := bdL_law_1210.2.2.2.2.2.1
theorem dL_law_1218 : decode cL_law 1218 = .ok (.iconst 1, 1) := bdL_law_1210.2.2.2.2.2.2.1
theorem dL_law_1219 : decode cL_law 1219 = .ok (.iadd, 1) := bdL_law_1210.2.2.2.2.2.2.2.1
theorem dL_law_1220 : decode cL_law 1220 = .ok (.iaload, 1) := bdL_law_1210.2.2.2.2.2.2.2.2.1
theorem dL_law_1221 : decode cL_law 1221 = .ok (.invokevirtual 120, 3) := bdL_law_1210.2.2.2.2.2.2.2.2.2.1
theorem dL_law_1224 : decode cL_law 1224 = .ok (.pop, 1) := bdL_law_1210.2.2.2.2.2.2.2.2.2.2.1
theorem dL_law_1225 : decode cL_law 1225 = .ok (.goto 3, 3) := bdL_law_1210.2.2.2.2.2.2.2.2.2.2.2
set_option maxRecDepth 20000 in
theorem bdL_law_1228 : (decode cL_law 1228 = .ok (.iinc 3 9, 3)) ∧ (decode cL_law 1231 = .ok (.goto (-1201), 3)) ∧ (decode cL_law 1234 = .ok (.iconst 1, 1)) ∧ (decode cL_law 1235 = .ok (.ireturn, 1)) := by decide +kernel
theorem dL_law_1228 : decode cL_law 1228 = .ok (.iinc 3 9, 3) := bdL_law_1228.1
theorem dL_law_1231 : decode cL_law 1231 = .ok (.goto (-1201), 3) := bdL_law_1228.2.1
theorem dL_law_1234 : decode cL_law 1234 = .ok (.iconst 1, 1) := bdL_law_1228.2.2.1
theorem dL_law_1235 : decode cL_law 1235 = .ok (.ireturn, 1) := bdL_law_1228.2.2.2
