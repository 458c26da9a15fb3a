theorem dL_law_630 : decode cL_law 630 = .ok (.i2l, 1) := bdL_law_627.2.2.2.1
theorem dL_law_631 : decode cL_law 631 = .ok (.ldc2_w 21, 3) := bdL_law_627.2.2.2.2.1
theorem dL_law_634 : decode cL_law 634 = .ok (.land, 1) := bdL_law_627.2.2.2.2.2.1
theorem dL_law_635 : decode cL_law 635 = .ok (.lor, 1) := bdL_law_627.2.2.2.2.2.2.1
theorem dL_law_636 : decode cL_law 636 = .ok (.invokevirtual 53, 3) := bdL_law_627.2.2.2.2.2.2.2.1
theorem dL_law_639 : decode cL_law 639 = .ok (.pop, 1) := bdL_law_627.2.2.2.2.2.2.2.2.1
theorem dL_law_640 : decode cL_law 640 = .ok (.aload_n 2, 1) := bdL_law_627.2.2.2.2.2.2.2.2.2.1
theorem dL_law_641 : decode cL_law 641 = .ok (.aload_n 0, 1) := bdL_law_627.2.2.2.2.2.2.2.2.2.2.1
theorem dL_law_642 : decode cL_law 642 = .ok (.iload_n 3, 1) := bdL_law_627.2.2.2.2.2.2.2.2.2.2.2
set_option maxRecDepth 20000 in
theorem bdL_law_643 : (decode cL_law 643 = .ok (.iconst 1, 1)) ∧ (decode cL_law 644 = .ok (.iadd, 1)) ∧ (decode cL_law 645 = .ok (.iaload, 1)) ∧ (decode cL_law 646 = .ok (.aload_n 0, 1)) ∧ (decode cL_law 647 = .ok (.iload_n 3, 1)) ∧ (decode cL_law 648 = .ok (.iconst 2, 1)) ∧ (decode cL_law 649 = .ok (.iadd, 1)) ∧ (decode cL_law 650 = .ok (.iaload, 1)) ∧ (decode cL_law 651 = .ok (.i2l, 1)) ∧ (decode cL_law 652 = .ok (.bipush 32, 2)) ∧ (decode cL_law 654 = .ok (.lshl, 1)) ∧ (decode cL_law 655 = .ok (.aload_n 0, 1)) := by decide +kernel
theorem dL_law_643 : decode cL_law 643 = .ok (.iconst 1, 1) := bdL_law_643.1
theorem dL_law_644 : decode cL_law 644 = .ok (.iadd, 1) := bdL_law_643.2.1
theorem dL_law_645 : decode cL_law 645 = .ok (.iaload, 1) := bdL_law_643.2.2.1
theorem dL_law_646 : decode cL_law 646 = .ok (.aload_n 0, 1) := bdL_law_643.2.2.2.1
theorem dL_law_647 : decode cL_law 647 = .ok (.iload_n 3, 1) := bdL_law_643.2.2.2.2.1
theorem dL_law_648 : decode cL_law 648 = .ok (.iconst 2, 1) := bdL_law_643.2.2.2.2.2.1
theorem dL_law_649 : decode cL_law 649 = .ok (.iadd, 1) := bdL_law_643.2.2.2.2.2.2.1
theorem dL_law_650 : decode cL_law 650 = .ok (.iaload, 1) := bdL_law_643.2.2.2.2.2.2.2.1
theorem dL_law_651 : decode cL_law 651 = .ok (.i2l, 1) := bdL_law_643.2.2.2.2.2.2.2.2.1
theorem dL_law_652 : decode cL_law 652 = .ok (.bipush 32, 2) := bdL_law_643.2.2.2.2.2.2.2.2.2.1
theorem dL_law_654 : decode cL_law 654 = .ok (.lshl, 1) := bdL_law_643.2.2.2.2.2.2.2.2.2.2.1
theorem dL_law_655 : decode cL_law 655 = .ok (.aload_n 0, 1) := bdL_law_643.2.2.2.2.2.2.2.2.2.2.2
set_option maxRecDepth 20000 in
theorem bdL_law_656 : (decode cL_law 656 = .ok (.iload_n 3, 1)) ∧ (decode cL_law 657 = .ok (.iconst 3, 1)) ∧ (decode cL_law 658 = .ok (.iadd, 1)) ∧ (decode cL_law 659 = .ok (.iaload, 1)) ∧ (decode cL_law 660 = .ok (.i2l, 1)) ∧ (decode cL_law 661 = .ok (.ldc2_w 21, 3)) ∧ (decode cL_law 664 = .ok (.land, 1)) ∧ (decode cL_law 665 = .ok (.lor, 1)) ∧ (decode cL_law 666 = .ok (.invokevirtual 57, 3)) ∧ (decode cL_law 669 = .ok (.pop, 1)) ∧ (decode cL_law 670 = .ok (.goto 557, 3)) ∧ (decode cL_law 673 = .ok (.aload_n 1, 1)) := by decide +kernel
theorem dL_law_656 : decode cL_law 656 = .ok (.iload_n 3, 1) := bdL_law_656.1
theorem dL_law_657 : decode cL_law 657 = .ok (.iconst 3, 1) := bdL_law_656.2.1
theorem dL_law_658 : decode cL_law 658 = .ok (.iadd, 1) := bdL_law_656.2.2.1
theorem dL_law_659 : decode cL_law 659 = .ok (.iaload, 1) := bdL_law_656.2.2.2.1
theorem dL_law_660 : decode cL_law 660 = .ok (.i2l, 1) := bdL_law_656.2.2.2.2.1
theorem dL_law_661 : decode cL_law 661 = .ok (.ldc2_w 21, 3) := bdL_law_656.2.2.2.2.2.1
theorem dL_law_664 : decode cL_law 664 = .ok (.land, 1) := bdL_law_656.2.2.2.2.2.2.1
theorem dL_law_665 : decode cL_law 665 = .ok (.lor, 1) := bdL_law_656.2.2.2.2.2.2.2.1
theorem dL_law_666 : decode cL_law 666 = .ok (.invokevirtual 57, 3) := bdL_law_656.2.2.2.2.2.2.2.2.1
theorem dL_law_669 : decode cL_law 669 = .ok (.pop, 1) := bdL_law_656.2.2.2.2.2.2.2.2.2.1
theorem dL_law_670 : decode cL_law 670 = .ok (.goto 557, 3) := bdL_law_656.2.2.2.2.2.2.2.2.2.2.1
theorem dL_law_673 : decode cL_law 673 = .ok (.aload_n 1, 1) := bdL_law_656.2.2.2.2.2.2.2.2.2.2.2
set_option maxRecDepth 20000 in
theorem bdL_law_674 : (decode cL_law 674 = .ok (.aload_n 0, 1)) ∧ (decode cL_law 675 = .ok (.iload_n 3, 1)) ∧ (decode cL_law 676 = .ok (.iconst 1, 1)) ∧ (decode cL_law 677 = .ok (.iadd, 1)) ∧ (decode cL_law 678 = .ok (.iaload, 1)) ∧ (decode cL_law 679 = .ok (.i2l, 1)) ∧ (decode cL_law 680 = .ok (.bipush 32, 2)) ∧ (decode cL_law 682 = .ok (.lshl, 1)) ∧ (decode cL_law 683 = .ok (.aload_n 0, 1)) ∧ (decode cL_law 684 = .ok (.iload_n 3, 1)) ∧ (decode cL_law 685 = .ok (.iconst 2, 1)) ∧ (decode cL_law 686 = .ok (.iadd, 1)) := by decide +kernel
theorem dL_law_674 : decode cL_law 674 = .ok (.aload_n 0, 1) := bdL_law_674.1
theorem dL_law_675 : decode cL_law 675 = .ok (.iload_n 3, 1) := bdL_law_674.2.1
theorem dL_law_676 : decode cL_law 676 = .ok (.iconst 1, 1) := bdL_law_674.2.2.1
theorem dL_law_677 : decode cL_law 677 = .ok (.iadd, 1) := bdL_law_674.2.2.2.1
theorem dL_law_678 : decode cL_law 678 = .ok (.iaload, 1) := bdL_law_674.2.2.2.2.1
theorem dL_law_679 : decode cL_law 679 = .ok (.i2l, 1) := bdL_law_674.2.2.2.2.2.1
theorem dL_law_680 : decode cL_law 680 = .ok (.bipush 32, 2) := bdL_law_674.2.2.2.2.2.2.1
theorem dL_law_682 : decode cL_law 682 = .ok (.lshl, 1) := bdL_law_674.2.2.2.2.2.2.2.1
theorem dL_law_683 : decode cL_law 683 = .ok (.aload_n 0, 1) := bdL_law_674.2.2.2.2.2.2.2.2.1
theorem dL_law_684 : decode cL_law 684 = .ok (.iload_n 3, 1) := bdL_law_674.2.2.2.2.2.2.2.2.2.1
theorem dL_law_685 : decode cL_law 685 = .ok (.iconst 2, 1) := bdL_law_674.2.2.2.2.2.2.2.2.2.2.1
theorem dL_law_686 : decode cL_law 686 = .ok (.iadd, 1) := bdL_law_674.2.2.2.2.2.2.2.2.2.2.2
set_option maxRecDepth 20000 in
theorem bdL_law_687 : (decode cL_law 687 = .ok (.iaload, 1)) ∧ (decode cL_law 688 = .ok (.i2l, 1)) ∧ (decode cL_law 689 = .ok (.ldc2_w 21, 3)) ∧ (decode cL_law 692 = .ok (.land, 1)) ∧ (decode cL_law 693 = .ok (.lor, 1)) ∧ (decode cL_law 694 = .ok (.aload_n 0, 1)) ∧ (decode cL_law 695 = .ok (.iload_n 3, 1)) ∧ (decode cL_law 696 = .ok (.iconst 3, 1)) ∧ (decode cL_law 697 = .ok (.iadd, 1)) ∧ (decode cL_law 698 = .ok (.iaload, 1)) ∧ (decode cL_law 699 = .ok (.aload_n 0, 1)) ∧ (decode cL_law 700 = .ok (.iload_n 3, 1)) := by decide +kernel
theorem dL_law_687 : decode cL_law 687 = .ok (.iaload, 1) := bdL_law_687.1
theorem dL_law_688 : decode cL_law 688 = .ok (.i2l, 1) := bdL_law_687.2.1
theorem dL_law_689 : decode cL_law 689 = .ok (.ldc2_w 21, 3) := bdL_law_687.2.2.1
theorem dL_law_692 : decode cL_law 692 = .ok (.land, 1) := bdL_law_687.2.2.2.1
theorem dL_law_693 : decode cL_law 693 = .ok (.lor, 1) := bdL_law_687.2.2.2.2.1
theorem dL_law_694 : decode cL_law 694 = .ok (.aload_n 0, 1) := bdL_law_687.2.2.2.2.2.1
theorem dL_law_695 : decode cL_law 695 = .ok (.iload_n 3, 1) := bdL_law_687.2.2.2.2.2.2.1
theorem dL_law_696 : decode cL_law 696 = .ok (.iconst 3, 1) := bdL_law_687.2.2.2.2.2.2.2.1
theorem dL_law_697 : decode cL_law 697 = .ok (.iadd, 1) := bdL_law_687.2.2.2.2.2.2.2.2.1
theorem dL_law_698 : decode cL_law 698 = .ok (.iaload, 1) := bdL_law_687.2.2.2.2.2.2.2.2.2.1
theorem dL_law_699 : decode cL_law 699 = .ok (.aload_n 0, 1) := bdL_law_687.2.2.2.2.2.2.2.2.2.2.1
theorem dL_law_700 : decode cL_law 700 = .ok (.iload_n 3, 1) := bdL_law_687.2.2.2.2.2.2.2.2.2.2.2
set_option maxRecDepth 20000 in
theorem bdL_law_701 : (decode cL_law 701 = .ok (.iconst 4, 1)) ∧ (decode cL_law 702 = .ok (.iadd, 1)) ∧ (decode cL_law 703 = .ok (.iaload, 1)) ∧ (decode cL_law 704 = .ok (.invokevirtual 58, 3)) ∧ (decode cL_law 707 = .ok (.pop, 1)) ∧ (decode cL_law 708 = .ok (.aload_n 2, 1)) ∧ (decode cL_law 709 = .ok (.aload_n 0, 1)) ∧ (decode cL_law 710 = .ok (.iload_n 3, 1)) ∧ (decode cL_law 711 = .ok (.iconst 1, 1)) ∧ (decode cL_law 712 = .ok (.iadd, 1)) ∧ (decode cL_law 713 = .ok (.iaload, 1)) ∧ (decode cL_law 714 = .ok (.i2l, 1)) := by decide +kernel
theorem dL_law_701 : decode cL_law 701 = .ok (.iconst 4, 1) := bdL_law_701.1
theorem dL_law_702 : decode cL_law 702 = .ok (.iadd, 1) := bdL_law_701.2.1
theorem dL_law_703 : decode cL_law 703 = .ok (.iaload, 1) := bdL_law_701.2.2.1
theorem dL_law_704 : decode cL_law 704 = .ok (.invokevirtual 58, 3) := bdL_law_701.2.2.2.1
theorem dL_law_707 : decode cL_law 707 = .ok (.pop, 1) := bdL_law_701.2.2.2.2.1
theorem dL_law_708 : decode cL_law 708 = .ok (.aload_n 2, 1) := bdL_law_701.2.2.2.2.2.1
theorem dL_law_709 : decode cL_law 709 = .ok (.aload_n 0, 1) := bdL_law_701.2.2.2.2.2.2.1
theorem dL_law_710 : decode cL_law 710 = .ok (.iload_n 3, 1) := bdL_law_701.2.2.2.2.2.2.2.1
theorem dL_law_711 : decode cL_law 711 = .ok (.iconst 1, 1) := bdL_law_701.2.2.2.2.2.2.2.2.1
theorem dL_law_712 : decode cL_law 712 = .ok (.iadd, 1) := bdL_law_701.2.2.2.2.2.2.2.2.2.1
theorem dL_law_713 : decode cL_law 713 = .ok (.iaload, 1) := bdL_law_701.2.2.2.2.2.2.2.2.2.2.1
theorem dL_law_714 : decode cL_law 714 = .ok (.i2l, 1) := bdL_law_701.2.2.2.2.2.2.2.2.2.2.2
set_option maxRecDepth 20000 in
theorem bdL_law_715 : (decode cL_law 715 = .ok (.bipush 32, 2)) ∧ (decode cL_law 717 = .ok (.lshl, 1)) ∧ (decode cL_law 718 = .ok (.aload_n 0, 1)) ∧ (decode cL_law 719 = .ok (.iload_n 3, 1)) ∧ (decode cL_law 720 = .ok (.iconst 2, 1)) ∧ (decode cL_law 721 = .ok (.iadd, 1)) ∧ (decode cL_law 722 = .ok (.iaload, 1)) ∧ (decode cL_law 723 = .ok (.i2l, 1)) ∧ (decode cL_law 724 = .ok (.ldc2_w 21, 3)) ∧ (decode cL_law 727 = .ok (.land, 1)) ∧ (decode cL_law 728 = .ok (.lor, 1)) ∧ (decode cL_law 729 = .ok (.aload_n 0, 1)) := by decide +kernel
theorem dL_law_715 : decode cL_law 715 = .ok (.bipush 32, 2) := bdL_law_715.1
theorem dL_law_717 : decode cL_law 717 = .ok (.lshl, 1) := bdL_law_715.2.1
theorem dL_law_718 : decode cL_law 718 = .ok (.aload_n 0, 1) := bdL_law_715.2.2.1
theorem dL_law_719 : decode cL_law 719 = .ok (.iload_n 3, 1) := bdL_law_715.2.2.2.1
theorem dL_law_720 : decode cL_law 720 = .ok (.iconst 2, 1) := bdL_law_715.2.2.2.2.1
theorem dL_law_721 : decode cL_law 721 = .ok (.iadd, 1) := bdL_law_715.2.2.2.2.2.1
theorem dL_law_722 : decode cL_law 722 = .ok (.iaload, 1) := bdL_law_715.2.2.2.2.2.2.1
theorem dL_law_723 : decode cL_law 723 = .ok (.i2l, 1) := bdL_law_715.2.2.2.2.2.2.2.1
theorem dL_law_724 : decode cL_law 724 = .ok (.ldc2_w 21, 3) := bdL_law_715.2.2.2.2.2.2.2.2.1
theorem dL_law_727 : decode cL_law 727 = .ok (.land, 1) := bdL_law_715.2.2.2.2.2.2.2.2.2.1
theorem dL_law_728 : decode cL_law 728 = .ok (.lor, 1) := bdL_law_715.2.2.2.2.2.2.2.2.2.2.1
theorem dL_law_729 : decode cL_law 729 = .ok (.aload_n 0, 1) := bdL_law_715.2.2.2.2.2.2.2.2.2.2.2
set_option maxRecDepth 20000 in
theorem bdL_law_730 : (decode cL_law 730 = .ok (.iload_n 3, 1)) ∧ (decode cL_law 731 = .ok (.iconst 3, 1)) ∧ (decode cL_law 732 = .ok (.iadd, 1)) ∧ (decode cL_law 733 = .ok (.iaload, 1)) ∧ (decode cL_law 734 = .ok (.aload_n 0, 1)) ∧ (decode cL_law 735 = .ok (.iload_n 3, 1)) ∧ (decode cL_law 736 = .ok (.iconst 4, 1)) ∧ (decode cL_law 737 = .ok (.iadd, 1)) ∧ (decode cL_law 738 = .ok (.iaload, 1)) ∧ (decode cL_law 739 = .ok (.invokevirtual 62, 3)) ∧ (decode cL_law 742 = .ok (.pop, 1)) ∧ (decode cL_law 743 = .ok (.goto 484, 3)) := by decide +kernel
theorem dL_law_730 : decode cL_law 730 = .ok (.iload_n 3, 1) := bdL_law_730.1
theorem dL_law_731 : decode cL_law 731 = .ok (.iconst 3, 1) := bdL_law_730.2.1
theorem dL_law_732 : decode cL_law 732 = .ok (.iadd, 1) := bdL_law_730.2.2.1
theorem dL_law_733 : decode cL_law 733 = .ok (.iaload, 1) := bdL_law_730.2.2.2.1
theorem dL_law_734 : decode cL_law 734 = .ok (.aload_n 0, 1) := bdL_law_730.2.2.2.2.1
theorem dL_law_735 : decode cL_law 735 = .ok (.iload_n 3, 1) := bdL_law_730.2.2.2.2.2.1
theorem dL_law_736 : decode cL_law 736 = .ok (.iconst 4, 1) := bdL_law_730.2.2.2.2.2.2.1
theorem dL_law_737 : decode cL_law 737 = .ok (.iadd, 1) := bdL_law_730.2.2.2.2.2.2.2.1
theorem dL_law_738 : decode cL_law 738 = .ok (.iaload, 1) := bdL_law_730.2.2.2.2.2.2.2.2.1
theorem dL_law_739 : decode cL_law 739 = .ok (.invokevirtual 62, 3) := bdL_law_730.2.2.2.2.2.2.2.2.2.1
theorem dL_law_742 : decode cL_law 742 = .ok (.pop, 1) := bdL_law_730.2.2.2.2.2.2.2.2.2.2.1
theorem dL_law_743 : decode cL_law 743 = .ok (.goto 484, 3) := bdL_law_730.2.2.2.2.2.2.2.2.2.2.2
set_option maxRecDepth 20000 in
theorem bdL_law_746 : (decode cL_law 746 = .ok (.aload_n 1, 1)) ∧ (decode cL_law 747 = .ok (.aload_n 0, 1)) ∧ (decode cL_law 748 = .ok (.iload_n 3, 1)) ∧ (decode cL_law 749 = .ok (.iconst 1, 1)) ∧ (decode cL_law 750 = .ok (.iadd, 1)) ∧ (decode cL_law 751 = .ok (.iaload, 1)) ∧ (decode cL_law 752 = .ok (.i2l, 1)) ∧ (decode cL_law 753 = .ok (.bipush 32, 2)) ∧ (decode cL_law 755 = .ok (.lshl, 1)) ∧ (decode cL_law 756 = .ok (.aload_n 0, 1)) ∧ (decode cL_law 757 = .ok (.iload_n 3, 1)) ∧ (decode cL_law 758 = .ok (.iconst 2, 1)) := by decide +kernel
theorem dL_law_746 : decode cL_law 746 = .ok (.aload_n 1, 1) := bdL_law_746.1
theorem dL_law_747 : decode cL_law 747 = .ok (.aload_n 0, 1) := bdL_law_746.2.1
theorem dL_law_748 : decode cL_law 748 = .ok (.iload_n 3, 1) := bdL_law_746.2.2.1
theorem dL_law_749 : decode cL_law 749 = .ok (.iconst 1, 1) := bdL_law_746.2.2.2.1
theorem dL_law_750 : decode cL_law 750 = .ok (.iadd, 1) := bdL_law_746.2.2.2.2.1
theorem dL_law_751 : decode cL_law 751 = .ok (.iaload, 1) := bdL_law_746.2.2.2.2.2.1
theorem dL_law_752 : decode cL_law 752 = .ok (.i2l, 1) := bdL_law_746.2.2.2.2.2.2.1
theorem dL_law_753 : decode cL_law 753 = .ok (.bipush 32, 2) := bdL_law_746.2.2.2.2.2.2.2.1
theorem dL_law_755 : decode cL_law 755 = .ok (.lshl, 1) := bdL_law_746.2.2.2.2.2.2.2.2.1
theorem dL_law_756 : decode cL_law 756 = .ok (.aload_n 0, 1) := bdL_law_746.2.2.2.2.2.2.2.2.2.1
theorem dL_law_757 : decode cL_law 757 = .ok (.iload_n 3, 1) := bdL_law_746.2.2.2.2.2.2.2.2.2.2.1
theorem dL_law_758 : decode cL_law 758 = .ok (.iconst 2, 1) := bdL_law_746.2.2.2.2.2.2.2.2.2.2.2
set_option maxRecDepth 20000 in
theorem bdL_law_759 : (decode cL_law 759 = .ok (.iadd, 1)) ∧ (decode cL_law 760 = .ok (.iaload, 1)) ∧ (decode cL_law 761 = .ok (.i2l, 1)) ∧ (decode cL_law 762 = .ok (.ldc2_w 21, 3)) ∧ (decode cL_law 765 = .ok (.land, 1)) ∧ (decode cL_law 766 = .ok (.lor, 1)) ∧ (decode cL_law 767 = .ok (.aload_n 0, 1)) ∧ (decode cL_law 768 = .ok (.iload_n 3, 1)) ∧ (decode cL_law 769 = .ok (.iconst 3, 1)) ∧ (decode cL_law 770 = .ok (.iadd, 1)) ∧ (decode cL_law 771 = .ok (.iaload, 1)) ∧ (decode cL_law 772 = .ok (.aload_n 0, 1)) := by decide +kernel
theorem dL_law_759 : decode cL_law 759 = .ok (.iadd, 1) := bdL_law_759.1
theorem dL_law_760 : decode cL_law 760 = .ok (.iaload, 1) := bdL_law_759.2.1
theorem dL_law_761 : decode cL_law 761 = .ok (.i2l, 1) := bdL_law_759.2.2.1
theorem dL_law_762 : decode cL_law 762 = .ok (.ldc2_w 21, 3) := bdL_law_759.2.2.2.1
theorem dL_law_765 : decode cL_law 765 = .ok (.land, 1) := bdL_law_759.2.2.2.2.1
theorem dL_law_766 : decode cL_law 766 = .ok (.lor, 1) := bdL_law_759.2.2.2.2.2.1
theorem dL_law_767 : decode cL_law 767 = .ok (.aload_n 0, 1) := bdL_law_759.2.2.2.2.2.2.1
theorem dL_law_768 : decode cL_law 768 = .ok (.iload_n 3, 1) := bdL_law_759.2.2.2.2.2.2.2.1
theorem dL_law_769 : decode cL_law 769 = .ok (.iconst 3, 1) := bdL_law_759.2.2.2.2.2.2.2.2.1
theorem dL_law_770 : decode cL_law 770 = .ok (.iadd, 1) := bdL_law_759.2.2.2.2.2.2.2.2.2.1
theorem dL_law_771 : decode cL_law 771 = .ok (.iaload, 1) := bdL_law_759.2.2.2.2.2.2.2.2.2.2.1
theorem dL_law_772 : decode cL_law 772 = .ok (.aload_n 0, 1) := bdL_law_759.2.2.2.2.2.2.2.2.2.2.2
set_option maxRecDepth 20000 in
theorem bdL_law_773 : (decode cL_law 773 = .ok (.iload_n 3, 1)) ∧ (decode cL_law 774 = .ok (.iconst 4, 1)) ∧ (decode cL_law 775 = .ok (.iadd, 1)) ∧ (decode cL_law 776 = .ok (.iaload, 1)) ∧ (decode cL_law 777 = .ok (.aload_n 0, 1)) ∧ (decode cL_law 778 = .ok (.iload_n 3, 1)) ∧ (decode cL_law 779 = .ok (.iconst 5, 1)) ∧ (decode cL_law 780 = .ok (.iadd, 1)) ∧ (decode cL_law 781 = .ok (.iaload, 1)) ∧ (decode cL_law 782 = .ok (.aload_n 0, 1)) ∧ (decode cL_law 783 = .ok (.iload_n 3, 1)) ∧ (decode cL_law 784 = .ok (.bipush 6, 2)) := by decide +kernel
theorem dL_law_773 : decode cL_law 773 = .ok (.iload_n 3, 1) := bdL_law_773.1
theorem dL_law_774 : decode cL_law 774 = .ok (.iconst 4, 1) := bdL_law_773.2.1
theorem dL_law_775 : decode cL_law 775 = .ok (.iadd, 1) := bdL_law_773.2.2.1
theorem dL_law_776 : decode cL_law 776 = .ok (.iaload, 1) := bdL_law_773.2.2.2.1
theorem dL_law_777 : decode cL_law 777 = .ok (.aload_n 0, 1) := bdL_law_773.2.2.2.2.1
theorem dL_law_778 : decode cL_law 778 = .ok (.iload_n 3, 1) := bdL_law_773.2.2.2.2.2.1
theorem dL_law_779 : decode cL_law 779 = .ok (.iconst 5, 1) := bdL_law_773.2.2.2.2.2.2.1
theorem dL_law_780 : decode cL_law 780 = .ok (.iadd, 1) := bdL_law_773.2.2.2.2.2.2.2.1
theorem dL_law_781 : decode cL_law 781 = .ok (.iaload, 1) := bdL_law_773.2.2.2.2.2.2.2.2.1
theorem dL_law_782 : decode cL_law 782 = .ok (.aload_n 0, 1) := bdL_law_773.2.2.2.2.2.2.2.2.2.1
theorem dL_law_783 : decode cL_law 783 = .ok (.iload_n 3, 1) := bdL_law_773.2.2.2.2.2.2.2.2.2.2.1
theorem dL_law_784 : decode cL_law 784 = .ok (.bipush 6, 2) := bdL_law_773.2.2.2.2.2.2.2.2.2.2.2
set_option maxRecDepth 20000 in
theorem bdL_law_786 : (decode cL_law 786 = .ok (.iadd, 1)) ∧ (decode cL_law 787 = .ok (.iaload, 1)) ∧ (decode cL_law 788 = .ok (.invokevirtual 63, 3)) ∧ (decode cL_law 791 = .ok (.pop, 1)) ∧ (decode cL_law 792 = .ok (.aload_n 2, 1)) ∧ (decode cL_law 793 = .ok (.aload_n 0, 1)) ∧ (decode cL_law 794 = .ok (.iload_n 3, 1)) ∧ (decode cL_law 795 = .ok (.iconst 1, 1)) ∧ (decode cL_law 796 = .ok (.iadd, 1)) ∧ (decode cL_law 797 = .ok (.iaload, 1)) ∧ (decode cL_law 798 = .ok (.i2l, 1)) ∧ (decode cL_law 799 = .ok (.bipush 32, 2)) := by decide +kernel
theorem dL_law_786 : decode cL_law 786 = .ok (.iadd, 1) := bdL_law_786.1
theorem dL_law_787 : decode cL_law 787 = .ok (.iaload, 1) := bdL_law_786.2.1
theorem dL_law_788 : decode cL_law 788 = .ok (.invokevirtual 63, 3) := bdL_law_786.2.2.1
theorem dL_law_791 : decode cL_law 791 = .ok (.pop, 1) := bdL_law_786.2.2.2.1
theorem dL_law_792 : decode cL_law 792 = .ok (.aload_n 2, 1) := bdL_law_786.2.2.2.2.1
theorem dL_law_793 : decode cL_law 793 = .ok (.aload_n 0, 1) := bdL_law_786.2.2.2.2.2.1
theorem dL_law_794 : decode cL_law 794 = .ok (.iload_n 3, 1) := bdL_law_786.2.2.2.2.2.2.1
theorem dL_law_795 : decode cL_law 795 = .ok (.iconst 1, 1) := bdL_law_786.2.2.2.2.2.2.2.1
theorem dL_law_796 : decode cL_law 796 = .ok (.iadd, 1) := bdL_law_786.2.2.2.2.2.2.2.2.1
theorem dL_law_797 : decode cL_law 797 = .ok (.iaload, 1) := bdL_law_786.2.2.2.2.2.2.2.2.2.1
theorem dL_law_798 : decode cL_law 798 = .ok (.i2l, 1) := bdL_law_786.2.2.2.2.2.2.2.2.2.2.1
theorem dL_law_799 : decode cL_law 799 = .ok (.bipush 32, 2) := bdL_law_786.2.2.2.2.2.2.2.2.2.2.2
set_option maxRecDepth 20000 in
theorem bdL_law_801 : (decode cL_law 801 = .ok (.lshl, 1)) ∧ (decode cL_law 802 = .ok (.aload_n 0, 1)) ∧ (decode cL_law 803 = .ok (.iload_n 3, 1)) ∧ (decode cL_law 804 = .ok (.iconst 2, 1)) ∧ (decode cL_law 805 = .ok (.iadd, 1)) ∧ (decode cL_law 806 = .ok (.iaload, 1)) ∧ (decode cL_law 807 = .ok (.i2l, 1)) ∧ (decode cL_law 808 = .ok (.ldc2_w 21, 3)) ∧ (decode cL_law 811 = .ok (.land, 1)) ∧ (decode cL_law 812 = .ok (.lor, 1)) ∧ (decode cL_law 813 = .ok (.aload_n 0, 1)) ∧ (decode cL_law 814 = .ok (.iload_n 3, 1)) := by decide +kernel
theorem dL_law_801 : decode cL_law 801 = .ok (.lshl, 1) := bdL_law_801.1
theorem dL_law_802 : decode cL_law 802 = .ok (.aload_n 0, 1) := bdL_law_801.2.1
theorem dL_law_803 : decode cL_law 803 = .ok (.iload_n 3, 1) := bdL_law_801.2.2.1
theorem dL_law_804 : decode cL_law 804 = .ok (.iconst 2, 1) := bdL_law_801.2.2.2.1
theorem dL_law_805 : decode cL_law 805 = .ok (.iadd, 1) := bdL_law_801.2.2.2.2.1
theorem dL_law_806 : decode cL_law 806 = .ok (.iaload, 1) := bdL_law_801.2.2.2.2.2.1
theorem dL_law_807 : decode cL_law 807 = .ok (.i2l, 1) := bdL_law_801.2.2.2.2.2.2.1
theorem dL_law_808 : decode cL_law 808 = .ok (.ldc2_w 21, 3) := bdL_law_801.2.2.2.2.2.2.2.1
theorem dL_law_811 : decode cL_law 811 = .ok (.land, 1) := bdL_law_801.2.2.2.2.2.2.2.2.1
theorem dL_law_812 : decode cL_law 812 = .ok (.lor, 1) := bdL_law_801.2.2.2.2.2.2.2.2.2.1
theorem dL_law_813 : decode cL_law 813 = .ok (.aload_n 0, 1) := bdL_law_801.2.2.2.2.2.2.2.2.2.2.1
theorem dL_law_814 : decode cL_law 814 = .ok (.iload_n 3, 1) := bdL_law_801.2.2.2.2.2.2.2.2.2.2.2
set_option maxRecDepth 20000 in
theorem bdL_law_815 : (decode cL_law 815 = .ok (.iconst 3, 1)) ∧ (decode cL_law 816 = .ok (.iadd, 1)) ∧ (decode cL_law 817 = .ok (.iaload, 1)) ∧ (decode cL_law 818 = .ok (.aload_n 0, 1)) ∧ (decode cL_law 819 = .ok (.iload_n 3, 1)) ∧ (decode cL_law 820 = .ok (.iconst 4, 1)) ∧ (decode cL_law 821 = .ok (.iadd, 1)) ∧ (decode cL_law 822 = .ok (.iaload, 1)) ∧ (decode cL_law 823 = .ok (.aload_n 0, 1)) ∧ (decode cL_law 824 = .ok (.iload_n 3, 1)) ∧ (decode cL_law 825 = .ok (.iconst 5, 1)) ∧ (decode cL_law 826 = .ok (.iadd, 1)) := by decide +kernel
theorem dL_law_815 : decode cL_law 815 = .ok (.iconst 3, 1) := bdL_law_815.1
theorem dL_law_816 : decode cL_law 816 = .ok (.iadd, 1) := bdL_law_815.2.1
theorem dL_law_817 : decode cL_law 817 = .ok (.iaload, 1) := bdL_law_815.2.2.1
theorem dL_law_818 : decode cL_law 818 = .ok (.aload_n 0, 1) := bdL_law_815.2.2.2.1
theorem dL_law_819 : decode cL_law 819 = .ok (.iload_n 3, 1) := bdL_law_815.2.2.2.2.1
theorem dL_law_820 : decode cL_law 820 = .ok (.iconst 4, 1) := bdL_law_815.2.2.2.2.2.1
theorem dL_law_821 : decode cL_law 821 = .ok (.iadd, 1) := bdL_law_815.2.2.2.2.2.2.1
theorem dL_law_822 : decode cL_law 822 = .ok (.iaload, 1) := bdL_law_815.2.2.2.2.2.2.2.1
theorem dL_law_823 : decode cL_law 823 = .ok (.aload_n 0, 1) := bdL_law_815.2.2.2.2.2.2.2.2.1
theorem dL_law_824 : decode cL_law 824 = .ok (.iload_n 3, 1) := bdL_law_815.2.2.2.2.2.2.2.2.2.1
theorem dL_law_825 : decode cL_law 825 = .ok (.iconst 5, 1) := bdL_law_815.2.2.2.2.2.2.2.2.2.2.1
theorem dL_law_826 : decode cL_law 826 = .ok (.iadd, 1) := bdL_law_815.2.2.2.2.2.2.2.2.2.2.2
set_option maxRecDepth 20000 in
theorem bdL_law_827 : (decode cL_law 827 = .ok (.iaload, 1)) ∧ (decode cL_law 828 = .ok (.aload_n 0, 1)) ∧ (decode cL_law 829 = .ok (.iload_n 3, 1)) ∧ (decode cL_law 830 = .ok (.bipush 6, 2)) ∧ (decode cL_law 832 = .ok (.iadd, 1)) ∧ (decode cL_law 833 = .ok (.iaload, 1)) ∧ (decode cL_law 834 = .ok (.invokevirtual 67, 3)) ∧ (decode cL_law 837 = .ok (.pop, 1)) ∧ (decode cL_law 838 = .ok (.goto 389, 3)) ∧ (decode cL_law 841 = .ok (.aload_n 1, 1)) ∧ (decode cL_law 842 = .ok (.invokevirtual 68, 3)) ∧ (decode cL_law 845 = .ok (.pop, 1)) := by decide +kernel
theorem dL_law_827 : decode cL_law 827 = .ok (.iaload, 1) := bdL_law_827.1
theorem dL_law_828 : decode cL_law 828 = .ok (.aload_n 0, 1) := bdL_law_827.2.1
theorem dL_law_829 : decode cL_law 829 = .ok (.iload_n 3, 1) := bdL_law_827.2.2.1
theorem dL_law_830 : decode cL_law 830 = .ok (.bipush 6, 2) := bdL_law_827.2.2.2.1
theorem dL_law_832 : decode cL_law 832 = .ok (.iadd, 1) := bdL_law_827.2.2.2.2.1
theorem dL_law_833 : decode cL_law 833 = .ok (.iaload, 1) := bdL_law_827.2.2.2.2.2.1
theorem dL_law_834 : decode cL_law 834 = .ok (.invokevirtual 67, 3) := bdL_law_827.2.2.2.2.2.2.1
theorem dL_law_837 : decode cL_law 837 = .ok (.pop, 1) := bdL_law_827.2.2.2.2.2.2.2.1
theorem dL_law_838 : decode cL_law 838 = .ok (.goto 389, 3) := bdL_law_827.2.2.2.2.2.2.2.2.1
theorem dL_law_841 : decode cL_law 841 = .ok (.aload_n 1, 1) := bdL_law_827.2.2.2.2.2.2.2.2.2.1
theorem dL_law_842 : decode cL_law 842 = .ok (.invokevirtual 68, 3) := bdL_law_827.2.2.2.2.2.2.2.2.2.2.1
theorem dL_law_845 : decode cL_law 845 = .ok (.pop, 1) := bdL_law_827.2.2.2.2.2.2.2.2.2.2.2
set_option maxRecDepth 20000 in
theorem bdL_law_846 : (decode cL_law 846 = .ok (.aload_n 2, 1)) ∧ (decode cL_law 847 = .ok (.invokevirtual 71, 3)) ∧ (decode cL_law 850 = .ok (.pop, 1)) ∧ (decode cL_law 851 = .ok (.goto 376, 3)) ∧ (decode cL_law 854 = .ok (.aload_n 1, 1)) ∧ (decode cL_law 855 = .ok (.invokevirtual 72, 3)) ∧ (decode cL_law 858 = .ok (.pop, 1)) ∧ (decode cL_law 859 = .ok (.aload_n 2, 1)) ∧ (decode cL_law 860 = .ok (.invokevirtual 75, 3)) ∧ (decode cL_law 863 = .ok (.pop, 1)) ∧ (decode cL_law 864 = .ok (.goto 363, 3)) ∧ (decode cL_law 867 = .ok (.aload_n 1, 1)) := by decide +kernel
theorem dL_law_846 : decode cL_law 846 = .ok (.aload_n 2, 1) := bdL_law_846.1
theorem dL_law_847 : decode cL_law 847 = .ok (.invokevirtual 71, 3) := bdL_law_846.2.1
theorem dL_law_850 : decode cL_law 850 = .ok (.pop, 1) := bdL_law_846.2.2.1
theorem dL_law_851 : decode cL_law 851 = .ok (.goto 376, 3) := bdL_law_846.2.2.2.1
theorem dL_law_854 : decode cL_law 854 = .ok (.aload_n 1, 1) := bdL_law_846.2.2.2.2.1
theorem dL_law_855 : decode cL_law 855 = .ok (.invokevirtual 72, 3) := bdL_law_846.2.2.2.2.2.1
theorem dL_law_858 : decode cL_law 858 = .ok (.pop, 1) := bdL_law_846.2.2.2.2.2.2.1
theorem dL_law_859 : decode cL_law 859 = .ok (.aload_n 2, 1) := bdL_law_846.2.2.2.2.2.2.2.1
theorem dL_law_860 : decode cL_law 860 = .ok (.invokevirtual 75, 3) := bdL_law_846.2.2.2.2.2.2.2.2.1
theorem dL_law_863 : decode cL_law 863 = .ok (.pop, 1) := bdL_law_846.2.2.2.2.2.2.2.2.2.1
theorem dL_law_864 : decode cL_law 864 = .ok (.goto 363, 3) := bdL_law_846.2.2.2.2.2.2.2.2.2.2.1
theorem dL_law_867 : decode cL_law 867 = .ok (.aload_n 1, 1) := bdL_law_846.2.2.2.2.2.2.2.2.2.2.2
set_option maxRecDepth 20000 in
theorem bdL_law_868 : (decode cL_law 868 = .ok (.aload_n 0, 1)) ∧ (decode cL_law 869 = .ok (.iload_n 3, 1)) ∧ (decode cL_law 870 = .ok (.iconst 1, 1)) ∧ (decode cL_law 871 = .ok (.iadd, 1)) ∧ (decode cL_law 872 = .ok (.iaload, 1)) ∧ (decode cL_law 873 = .ok (.i2l, 1)) ∧ (decode cL_law 874 = .ok (.bipush 32, 2)) ∧ (decode cL_law 876 = .ok (.lshl, 1)) ∧ (decode cL_law 877 = .ok (.aload_n 0, 1)) ∧ (decode cL_law 878 = .ok (.iload_n 3, 1)) ∧ (decode cL_law 879 = .ok (.iconst 2, 1)) ∧ (decode cL_law 880 = .ok (.iadd, 1)) := by decide +kernel
theorem dL_law_868 : decode cL_law 868 = .ok (.aload_n 0, 1) := bdL_law_868.1
theorem dL_law_869 : decode cL_law 869 = .ok (.iload_n 3, 1) := bdL_law_868.2.1
theorem dL_law_870 : decode cL_law 870 = .ok (.iconst 1, 1) := bdL_law_868.2.2.1
theorem dL_law_871 : decode cL_law 871 = .ok (.iadd, 1) := bdL_law_868.2.2.2.1
theorem dL_law_872 : decode cL_law 872 = .ok (.iaload, 1) := bdL_law_868.2.2.2.2.1
theorem dL_law_873 : decode cL_law 873 = .ok (.i2l, 1) := bdL_law_868.2.2.2.2.2.1
theorem dL_law_874 : decode cL_law 874 = .ok (.bipush 32, 2) := bdL_law_868.2.2.2.2.2.2.1
theorem dL_law_876 : decode cL_law 876 = .ok (.lshl, 1) := bdL_law_868.2.2.2.2.2.2.2.1
theorem dL_law_877 : decode cL_law 877 = .ok (.aload_n 0, 1) := bdL_law_868.2.2.2.2.2.2.2.2.1
theorem dL_law_878 : decode cL_law 878 = .ok (.iload_n 3, 1) := bdL_law_868.2.2.2.2.2.2.2.2.2.1
theorem dL_law_879 : decode cL_law 879 = .ok (.iconst 2, 1) := bdL_law_868.2.2.2.2.2.2.2.2.2.2.1
theorem dL_law_880 : decode cL_law 880 = .ok (.iadd, 1) := bdL_law_868.2.2.2.2.2.2.2.2.2.2.2
set_option maxRecDepth 20000 in
theorem bdL_law_881 : (decode cL_law 881 = .ok (.iaload, 1)) ∧ (decode cL_law 882 = .ok (.i2l, 1)) ∧ (decode cL_law 883 = .ok (.ldc2_w 21, 3)) ∧ (decode cL_law 886 = .ok (.land, 1)) ∧ (decode cL_law 887 = .ok (.lor, 1)) ∧ (decode cL_law 888 = .ok (.aload_n 0, 1)) ∧ (decode cL_law 889 = .ok (.iload_n 3, 1)) ∧ (decode cL_law 890 = .ok (.iconst 3, 1)) ∧ (decode cL_law 891 = .ok (.iadd, 1)) ∧ (decode cL_law 892 = .ok (.iaload, 1)) ∧ (decode cL_law 893 = .ok (.invokevirtual 76, 3)) ∧ (decode cL_law 896 = .ok (.pop, 1)) := by decide +kernel
theorem dL_law_881 : decode cL_law 881 = .ok (.iaload, 1) := bdL_law_881.1
theorem dL_law_882 : decode cL_law 882 = .ok (.i2l, 1) := bdL_law_881.2.1
theorem dL_law_883 : decode cL_law 883 = .ok (.ldc2_w 21, 3) := bdL_law_881.2.2.1
theorem dL_law_886 : decode cL_law 886 = .ok (.land, 1) := bdL_law_881.2.2.2.1
theorem dL_law_887 : decode cL_law 887 = .ok (.lor, 1) := bdL_law_881.2.2.2.2.1
theorem dL_law_888 : decode cL_law 888 = .ok (.aload_n 0, 1) := bdL_law_881.2.2.2.2.2.1
theorem dL_law_889 : decode cL_law 889 = .ok (.iload_n 3, 1) := bdL_law_881.2.2.2.2.2.2.1
theorem dL_law_890 : decode cL_law 890 = .ok (.iconst 3, 1) := bdL_law_881.2.2.2.2.2.2.2.1
theorem dL_law_891 : decode cL_law 891 = .ok (.iadd, 1) := bdL_law_881.2.2.2.2.2.2.2.2.1
theorem dL_law_892 : decode cL_law 892 = .ok (.iaload, 1) := bdL_law_881.2.2.2.2.2.2.2.2.2.1
theorem dL_law_893 : decode cL_law 893 = .ok (.invokevirtual 76, 3) := bdL_law_881.2.2.2.2.2.2.2.2.2.2.1
theorem dL_law_896 : decode cL_law 896 = .ok (.pop, 1) := bdL_law_881.2.2.2.2.2.2.2.2.2.2.2
set_option maxRecDepth 20000 in
theorem bdL_law_897 : (decode cL_law 897 = .ok (.aload_n 2, 1)) ∧ (decode cL_law 898 = .ok (.aload_n 0, 1)) ∧ (decode cL_law 899 = .ok (.iload_n 3, 1)) ∧ (decode cL_law 900 = .ok (.iconst 1, 1)) ∧ (decode cL_law 901 = .ok (.iadd, 1)) ∧ (decode cL_law 902 = .ok (.iaload, 1)) ∧ (decode cL_law 903 = .ok (.i2l, 1)) ∧ (decode cL_law 904 = .ok (.bipush 32, 2)) ∧ (decode cL_law 906 = .ok (.lshl, 1)) ∧ (decode cL_law 907 = .ok (.aload_n 0, 1)) ∧ (decode cL_law 908 = .ok (.iload_n 3, 1)) ∧ (decode cL_law 909 = .ok (.iconst 2, 1)) := by decide +kernel
theorem dL_law_897 : decode cL_law 897 = .ok (.aload_n 2, 1) := bdL_law_897.1
theorem dL_law_898 : decode cL_law 898 = .ok (.aload_n 0, 1) := bdL_law_897.2.1
theorem dL_law_899 : decode cL_law 899 = .ok (.iload_n 3, 1) := bdL_law_897.2.2.1
theorem dL_law_900 : decode cL_law 900 = .ok (.iconst 1, 1) := bdL_law_897.2.2.2.1
theorem dL_law_901 : decode cL_law 901 = .ok (.iadd, 1) := bdL_law_897.2.2.2.2.1
theorem dL_law_902 : decode cL_law 902 = .ok (.iaload, 1) := bdL_law_897.2.2.2.2.2.1
theorem dL_law_903 : decode cL_law 903 = .ok (.i2l, 1) := bdL_law_897.2.2.2.2.2.2.1
theorem dL_law_904 : decode cL_law 904 = .ok (.bipush 32, 2) := bdL_law_897.2.2.2.2.2.2.2.1
theorem dL_law_906 : decode cL_law 906 = .ok (.lshl, 1) := bdL_law_897.2.2.2.2.2.2.2.2.1
theorem dL_law_907 : decode cL_law 907 = .ok (.aload_n 0, 1) := bdL_law_897.2.2.2.2.2.2.2.2.2.1
theorem dL_law_908 : decode cL_law 908 = .ok (.iload_n 3, 1) := bdL_law_897.2.2.2.2.2.2.2.2.2.2.1
theorem dL_law_909 : decode cL_law 909 = .ok (.iconst 2, 1) := bdL_law_897.2.2.2.2.2.2.2.2.2.2.2
set_option maxRecDepth 20000 in
theorem bdL_law_910 : (decode cL_law 910 = .ok (.iadd, 1)) ∧ (decode cL_law 911 = .ok (.iaload, 1)) ∧ (decode cL_law 912 = .ok (.i2l, 1)) ∧ (decode cL_law 913 = .ok (.ldc2_w 21, 3)) ∧ (decode cL_law 916 = .ok (.land, 1)) ∧ (decode cL_law 917 = .ok (.lor, 1)) ∧ (decode cL_law 918 = .ok (.aload_n 0, 1)) ∧ (decode cL_law 919 = .ok (.iload_n 3, 1)) ∧ (decode cL_law 920 = .ok (.iconst 3, 1)) ∧ (decode cL_law 921 = .ok (.iadd, 1)) ∧ (decode cL_law 922 = .ok (.iaload, 1)) ∧ (decode cL_law 923 = .ok (.invokevirtual 80, 3)) := by decide +kernel
theorem dL_law_910 : decode cL_law 910 = .ok (.iadd, 1) := bdL_law_910.1
theorem dL_law_911 : decode cL_law 911 = .ok (.iaload, 1) := bdL_law_910.2.1
theorem dL_law_912 : decode cL_law 912 = .ok (.i2l, 1) := bdL_law_910.2.2.1
theorem dL_law_913 : decode cL_law 913 = .ok (.ldc2_w 21, 3) := bdL_law_910.2.2.2.1
theorem dL_law_916 : decode cL_law 916 = .ok (.land, 1) := bdL_law_910.2.2.2.2.1
theorem dL_law_917 : decode cL_law 917 = .ok (.lor, 1) := bdL_law_910.2.2.2.2.2.1
theorem dL_law_918 : decode cL_law 918 = .ok (.aload_n 0, 1) := bdL_law_910.2.2.2.2.2.2.1
theorem dL_law_919 : decode cL_law 919 = .ok (.iload_n 3, 1) := bdL_law_910.2.2.2.2.2.2.2.1
theorem dL_law_920 : decode cL_law 920 = .ok (.iconst 3, 1) := bdL_law_910.2.2.2.2.2.2.2.2.1
theorem dL_law_921 : decode cL_law 921 = .ok (.iadd, 1) := bdL_law_910.2.2.2.2.2.2.2.2.2.1
theorem dL_law_922 : decode cL_law 922 = .ok (.iaload, 1) := bdL_law_910.2.2.2.2.2.2.2.2.2.2.1
theorem dL_law_923 : decode cL_law 923 = .ok (.invokevirtual 80, 3) := bdL_law_910.2.2.2.2.2.2.2.2.2.2.2
set_option maxRecDepth 20000 in
theorem bdL_law_926 : (decode cL_law 926 = .ok (.pop, 1)) ∧ (decode cL_law 927 = .ok (.goto 300, 3)) ∧ (decode cL_law 930 = .ok (.aload_n 1, 1)) ∧ (decode cL_law 931 = .ok (.aload_n 0, 1)) ∧ (decode cL_law 932 = .ok (.iload_n 3, 1)) ∧ (decode cL_law 933 = .ok (.iconst 1, 1)) ∧ (decode cL_law 934 = .ok (.iadd, 1)) ∧ (decode cL_law 935 = .ok (.iaload, 1)) ∧ (decode cL_law 936 = .ok (.aload_n 0, 1)) ∧ (decode cL_law 937 = .ok (.iload_n 3, 1)) ∧ (decode cL_law 938 = .ok (.iconst 2, 1)) ∧ (decode cL_law 939 = .ok (.iadd, 1)) := by decide +kernel
theorem dL_law_926 : decode cL_law 926 = .ok (.pop, 1) := bdL_law_926.1
theorem dL_law_927 : decode cL_law 927 = .ok (.goto 300, 3) := bdL_law_926.2.1
theorem dL_law_930 : decode cL_law 930 = .ok (.aload_n 1, 1) := bdL_law_926.2.2.1
theorem dL_law_931 : decode cL_law 931 = .ok (.aload_n 0, 1) := bdL_law_926.2.2.2.1
theorem dL_law_932 : decode cL_law 932 = .ok (.iload_n 3, 1) := bdL_law_926.2.2.2.2.1
theorem dL_law_933 : decode cL_law 933 = .ok (.iconst 1, 1) := bdL_law_926.2.2.2.2.2.1
theorem dL_law_934 : decode cL_law 934 = .ok (.iadd, 1) := bdL_law_926.2.2.2.2.2.2.1
theorem dL_law_935 : decode cL_law 935 = .ok (.iaload, 1) := bdL_law_926.2.2.2.2.2.2.2.1
theorem dL_law_936 : decode cL_law 936 = .ok (.aload_n 0, 1) := bdL_law_926.2.2.2.2.2.2.2.2.1
theorem dL_law_937 : decode cL_law 937 = .ok (.iload_n 3, 1) := bdL_law_926.2.2.2.2.2.2.2.2.2.1
theorem dL_law_938 : decode cL_law 938 = .ok (.iconst 2, 1) := bdL_law_926.2.2.2.2.2.2.2.2.2.2.1
theorem dL_law_939 : decode cL_law 939 = .ok (.iadd, 1) := bdL_law_926.2.2.2.2.2.2.2.2.2.2.2
set_option maxRecDepth 20000 in
theorem bdL_law_940 : (decode cL_law 940 = .ok (.iaload, 1)) ∧ (decode cL_law 941 = .ok (.i2l, 1)) ∧ (decode cL_law 942 = .ok (.bipush 32, 2)) ∧ (decode cL_law 944 = .ok (.lshl, 1)) ∧ (decode cL_law 945 = .ok (.aload_n 0, 1)) ∧ (decode cL_law 946 = .ok (.iload_n 3, 1)) ∧ (decode cL_law 947 = .ok (.iconst 3, 1)) ∧ (decode cL_law 948 = .ok (.iadd, 1)) ∧ (decode cL_law 949 = .ok (.iaload, 1)) ∧ (decode cL_law 950 = .ok (.i2l, 1)) ∧ (decode cL_law 951 = .ok (.ldc2_w 21, 3)) ∧ (decode cL_law 954 = .ok (.land, 1)) := by decide +kernel
theorem dL_law_940 : decode cL_law 940 = .ok (.iaload, 1) := bdL_law_940.1
theorem dL_law_941 : decode cL_law 941 = .ok (.i2l, 1) := bdL_law_940.2.1
theorem dL_law_942 : decode cL_law 942 = .ok (.bipush 32, 2) := bdL_law_940.2.2.1
theorem dL_law_944 : decode cL_law 944 = .ok (.lshl, 1) := bdL_law_940.2.2.2.1
theorem dL_law_945 : decode cL_law 945 = .ok (.aload_n 0, 1) := bdL_law_940.2.2.2.2.1
theorem dL_law_946 : decode cL_law 946 = .ok (.iload_n 3, 1) := bdL_law_940.2.2.2.2.2.1
theorem dL_law_947 : decode cL_law 947 = .ok (.iconst 3, 1) := bdL_law_940.2.2.2.2.2.2.1
theorem dL_law_948 : decode cL_law 948 = .ok (.iadd, 1) := bdL_law_940.2.2.2.2.2.2.2.1
theorem dL_law_949 : decode cL_law 949 = .ok (.iaload, 1) := bdL_law_940.2.2.2.2.2.2.2.2.1
theorem dL_law_950 : decode cL_law 950 = .ok (.i2l, 1) := bdL_law_940.2.2.2.2.2.2.2.2.2.1
theorem dL_law_951 : decode cL_law 951 = .ok (.ldc2_w 21, 3) := bdL_law_940.2.2.2.2.2.2.2.2.2.2.1
theorem dL_law_954 : decode cL_law 954 = .ok (.land, 1) := bdL_law_940.2.2.2.2.2.2.2.2.2.2.2
set_option maxRecDepth 20000 in
theorem bdL_law_955 : (decode cL_law 955 = .ok (.lor, 1)) ∧ (decode cL_law 956 = .ok (.invokevirtual 81, 3)) ∧ (decode cL_law 959 = .ok (.pop2, 1)) ∧ (decode cL_law 960 = .ok (.aload_n 2, 1)) ∧ (decode cL_law 961 = .ok (.aload_n 0, 1)) ∧ (decode cL_law 962 = .ok (.iload_n 3, 1)) ∧ (decode cL_law 963 = .ok (.iconst 1, 1)) ∧ (decode cL_law 964 = .ok (.iadd, 1)) ∧ (decode cL_law 965 = .ok (.iaload, 1)) ∧ (decode cL_law 966 = .ok (.aload_n 0, 1)) ∧ (decode cL_law 967 = .ok (.iload_n 3, 1)) ∧ (decode cL_law 968 = .ok (.iconst 2, 1)) := by decide +kernel
theorem dL_law_955 : decode cL_law 955 = .ok (.lor, 1) := bdL_law_955.1
theorem dL_law_956 : decode cL_law 956 = .ok (.invokevirtual 81, 3) := bdL_law_955.2.1
theorem dL_law_959 : decode cL_law 959 = .ok (.pop2, 1) := bdL_law_955.2.2.1
theorem dL_law_960 : decode cL_law 960 = .ok (.aload_n 2, 1) := bdL_law_955.2.2.2.1
theorem dL_law_961 : decode cL_law 961 = .ok (.aload_n 0, 1) := bdL_law_955.2.2.2.2.1
theorem dL_law_962 : decode cL_law 962 = .ok (.iload_n 3, 1) := bdL_law_955.2.2.2.2.2.1
theorem dL_law_963 : decode cL_law 963 = .ok (.iconst 1, 1) := bdL_law_955.2.2.2.2.2.2.1
theorem dL_law_964 : decode cL_law 964 = .ok (.iadd, 1) := bdL_law_955.2.2.2.2.2.2.2.1
theorem dL_law_965 : decode cL_law 965 = .ok (.iaload, 1) := bdL_law_955.2.2.2.2.2.2.2.2.1
theorem dL_law_966 : decode cL_law 966 = .ok (.aload_n 0, 1) := bdL_law_955.2.2.2.2.2.2.2.2.2.1
theorem dL_law_967 : decode cL_law 967 = .ok (.iload_n 3, 1) := bdL_law_955.2.2.2.2.2.2.2.2.2.2.1
theorem dL_law_968 : decode cL_law 968 = .ok (.iconst 2, 1) := bdL_law_955.2.2.2.2.2.2.2.2.2.2.2
set_option maxRecDepth 20000 in
theorem bdL_law_969 : (decode cL_law 969 = .ok (.iadd, 1)) ∧ (decode cL_law 970 = .ok (.iaload, 1)) ∧ (decode cL_law 971 = .ok (.i2l, 1)) ∧ (decode cL_law 972 = .ok (.bipush 32, 2)) ∧ (decode cL_law 974 = .ok (.lshl, 1)) ∧ (decode cL_law 975 = .ok (.aload_n 0, 1)) ∧ (decode cL_law 976 = .ok (.iload_n 3, 1)) ∧ (decode cL_law 977 = .ok (.iconst 3, 1)) ∧ (decode cL_law 978 = .ok (.iadd, 1)) ∧ (decode cL_law 979 = .ok (.iaload, 1)) ∧ (decode cL_law 980 = .ok (.i2l, 1)) ∧ (decode cL_law 981 = .ok (.ldc2_w 21, 3)) := by decide +kernel
theorem dL_law_969 : decode cL_law 969 = .ok (.iadd, 1) := bdL_law_969.1
theorem dL_law_970 : decode cL_law 970 = .ok (.iaload, 1) := bdL_law_969.2.1
theorem dL_law_971 : decode cL_law 971 = .ok (.i2l, 1) := bdL_law_969.2.2.1
theorem dL_law_972 : decode cL_law 972 = .ok (.bipush 32, 2) := bdL_law_969.2.2.2.1
theorem dL_law_974 : decode cL_law 974 = .ok (.lshl, 1) := bdL_law_969.2.2.2.2.1
theorem dL_law_975 : decode cL_law 975 = .ok (.aload_n 0, 1) := bdL_law_969.2.2.2.2.2.1
theorem dL_law_976 : decode cL_law 976 = .ok (.iload_n 3, 1) := bdL_law_969.2.2.2.2.2.2.1
theorem dL_law_977 : decode cL_law 977 = .ok (.iconst 3, 1) := bdL_law_969.2.2.2.2.2.2.2.1
theorem dL_law_978 : decode cL_law 978 = .ok (.iadd, 1) := bdL_law_969.2.2.2.2.2.2.2.2.1
theorem dL_law_979 : decode cL_law 979 = .ok (.iaload, 1) := bdL_law_969.2.2.2.2.2.2.2.2.2.1
theorem dL_law_980 : decode cL_law 980 = .ok (.i2l, 1) := bdL_law_969.2.2.2.2.2.2.2.2.2.2.1
theorem dL_law_981 : decode cL_law 981 = .ok (.ldc2_w 21, 3) := bdL_law_969.2.2.2.2.2.2.2.2.2.2.2
set_option maxRecDepth 20000 in
theorem bdL_law_984 : (decode cL_law 984 = .ok (.land, 1)) ∧ (decode cL_law 985 = .ok (.lor, 1)) ∧ (decode cL_law 986 = .ok (.invokevirtual 85, 3)) ∧ (decode cL_law 989 = .ok (.pop2, 1)) ∧ (decode cL_law 990 = .ok (.goto 237, 3)) ∧ (decode cL_law 993 = .ok (.aload_n 1, 1)) ∧ (decode cL_law 994 = .ok (.aload_n 0, 1)) ∧ (decode cL_law 995 = .ok (.iload_n 3, 1)) ∧ (decode cL_law 996 = .ok (.iconst 1, 1)) ∧ (decode cL_law 997 = .ok (.iadd, 1)) ∧ (decode cL_law 998 = .ok (.iaload, 1)) ∧ (decode cL_law 999 = .ok (.invokevirtual 86, 3)) := by decide +kernel
theorem dL_law_984 : decode cL_law 984 = .ok (.land, 1) := bdL_law_984.1
theorem dL_law_985 : decode cL_law 985 = .ok (.lor, 1) := bdL_law_984.2.1
theorem dL_law_986 : decode cL_law 986 = .ok (.invokevirtual 85, 3) := bdL_law_984.2.2.1
theorem dL_law_989 : decode cL_law 989 = .ok (.pop2, 1) := bdL_law_984.2.2.2.1
theorem dL_law_990 : decode cL_law 990 = .ok (.goto 237, 3) := bdL_law_984.2.2.2.2.1
theorem dL_law_993 : decode cL_law 993 = .ok (.aload_n 1, 1) := bdL_law_984.2.2.2.2.2.1
theorem dL_law_994 : decode cL_law 994 = .ok (.aload_n 0, 1) := bdL_law_984.2.2.2.2.2.2.1
theorem dL_law_995 : decode cL_law 995 = .ok (.iload_n 3, 1) := bdL_law_984.2.2.2.2.2.2.2.1
theorem dL_law_996 : decode cL_law 996 = .ok (.iconst 1, 1) := bdL_law_984.2.2.2.2.2.2.2.2.1
theorem dL_law_997 : decode cL_law 997 = .ok (.iadd, 1) := bdL_law_984.2.2.2.2.2.2.2.2.2.1
theorem dL_law_998 : decode cL_law 998 = .ok (.iaload, 1) := bdL_law_984.2.2.2.2.2.2.2.2.2.2.1
theorem dL_law_999 : decode cL_law 999 = .ok (.invokevirtual 86, 3) := bdL_law_984.2.2.2.2.2.2.2.2.2.2.2
set_option maxRecDepth 20000 in
theorem bdL_law_1002 : (decode cL_law 1002 = .ok (.pop, 1)) ∧ (decode cL_law 1003 = .ok (.aload_n 2, 1)) ∧ (decode cL_law 1004 = .ok (.aload_n 0, 1)) ∧ (decode cL_law 1005 = .ok (.iload_n 3, 1)) ∧ (decode cL_law 1006 = .ok (.iconst 1, 1)) ∧ (decode cL_law 1007 = .ok (.iadd, 1)) ∧ (decode cL_law 1008 = .ok (.iaload, 1)) ∧ (decode cL_law 1009 = .ok (.invokevirtual 90, 3)) ∧ (decode cL_law 1012 = .ok (.pop, 1)) ∧ (decode cL_law 1013 = .ok (.goto 214, 3)) ∧ (decode cL_law 1016 = .ok (.aload_n 1, 1)) ∧ (decode cL_law 1017 = .ok (.aload_n 0, 1)) := by decide +kernel
theorem dL_law_1002 : decode cL_law 1002 = .ok (.pop, 1) := bdL_law_1002.1
theorem dL_law_1003 : decode cL_law 1003 = .ok (.aload_n 2, 1) := bdL_law_1002.2.1
theorem dL_law_1004 : decode cL_law 1004 = .ok (.aload_n 0, 1) := bdL_law_1002.2.2.1
theorem dL_law_1005 : decode cL_law 1005 = .ok (.iload_n 3, 1) := bdL_law_1002.2.2.2.1
theorem dL_law_1006 : decode cL_law 1006 = .ok (.iconst 1, 1) := bdL_law_1002.2.2.2.2.1
theorem dL_law_1007 : decode cL_law 1007 = .ok (.iadd, 1) := bdL_law_1002.2.2.2.2.2.1
theorem dL_law_1008 : decode cL_law 1008 = .ok (.iaload, 1) := bdL_law_1002.2.2.2.2.2.2.1
theorem dL_law_1009 : decode cL_law 1009 = .ok (.invokevirtual 90, 3) := bdL_law_1002.2.2.2.2.2.2.2.1
theorem dL_law_1012 : decode cL_law 1012 = .ok (.pop, 1) := bdL_law_1002.2.2.2.2.2.2.2.2.1
theorem dL_law_1013 : decode cL_law 1013 = .ok (.goto 214, 3) := bdL_law_1002.2.2.2.2.2.2.2.2.2.1
theorem dL_law_1016 : decode cL_law 1016 = .ok (.aload_n 1, 1) := bdL_law_1002.2.2.2.2.2.2.2.2.2.2.1
theorem dL_law_1017 : decode cL_law 1017 = .ok (.aload_n 0, 1) := bdL_law_1002.2.2.2.2.2.2.2.2.2.2.2
set_option maxRecDepth 20000 in
theorem bdL_law_1018 : (decode cL_law 1018 = .ok (.iload_n 3, 1)) ∧ (decode cL_law 1019 = .ok (.iconst 1, 1)) ∧ (decode cL_law 1020 = .ok (.iadd, 1)) ∧ (decode cL_law 1021 = .ok (.iaload, 1)) ∧ (decode cL_law 1022 = .ok (.invokevirtual 91, 3)) ∧ (decode cL_law 1025 = .ok (.pop, 1)) ∧ (decode cL_law 1026 = .ok (.aload_n 2, 1)) ∧ (decode cL_law 1027 = .ok (.aload_n 0, 1)) ∧ (decode cL_law 1028 = .ok (.iload_n 3, 1)) ∧ (decode cL_law 1029 = .ok (.iconst 1, 1)) ∧ (decode cL_law 1030 = .ok (.iadd, 1)) ∧ (decode cL_law 1031 = .ok (.iaload, 1)) := by decide +kernel
theorem dL_law_1018 : decode cL_law 1018 = .ok (.iload_n 3, 1) := bdL_law_1018.1
theorem dL_law_1019 : decode cL_law 1019 = .ok (.iconst 1, 1) := bdL_law_1018.2.1
theorem dL_law_1020 : decode cL_law 1020 = .ok (.iadd, 1) := bdL_law_1018.2.2.1
theorem dL_law_1021 : decode cL_law 1021 = .ok (.iaload, 1) := bdL_law_1018.2.2.2.1
theorem dL_law_1022 : decode cL_law 1022 = .ok (.invokevirtual 91, 3) := bdL_law_1018.2.2.2.2.1
theorem dL_law_1025 : decode cL_law 1025 = .ok (.pop, 1) := bdL_law_1018.2.2.2.2.2.1
theorem dL_law_1026 : decode cL_law 1026 = .ok (.aload_n 2, 1) := bdL_law_1018.2.2.2.2.2.2.1
theorem dL_law_1027 : decode cL_law 1027 = .ok (.aload_n 0, 1) := bdL_law_1018.2.2.2.2.2.2.2.1
theorem dL_law_1028 : decode cL_law 1028 = .ok (.iload_n 3, 1) := bdL_law_1018.2.2.2.2.2.2.2.2.1
theorem dL_law_1029 : decode cL_law 1029 = .ok (.iconst 1, 1) := bdL_law_1018.2.2.2.2.2.2.2.2.2.1
theorem dL_law_1030 : decode cL_law 1030 = .ok (.iadd, 1) := bdL_law_1018.2.2.2.2.2.2.2.2.2.2.1
theorem dL_law_1031 : decode cL_law 1031 = .ok (.iaload, 1) := bdL_law_1018.2.2.2.2.2.2.2.2.2.2.2
set_option maxRecDepth 20000 in
theorem bdL_law_1032 : (decode cL_law 1032 = .ok (.invokevirtual 94, 3)) ∧ (decode cL_law 1035 = .ok (.pop, 1)) ∧ (decode cL_law 1036 = .ok (.goto 191, 3)) ∧ (decode cL_law 1039 = .ok (.aload_n 1, 1)) ∧ (decode cL_law 1040 = .ok (.aload_n 0, 1)) ∧ (decode cL_law 1041 = .ok (.iload_n 3, 1)) ∧ (decode cL_law 1042 = .ok (.iconst 1, 1)) ∧ (decode cL_law 1043 = .ok (.iadd, 1)) ∧ (decode cL_law 1044 = .ok (.iaload, 1)) ∧ (decode cL_law 1045 = .ok (.aload_n 0, 1)) ∧ (decode cL_law 1046 = .ok (.iload_n 3, 1)) ∧ (decode cL_law 1047 = .ok (.iconst 2, 1)) := by decide +kernel
theorem dL_law_1032 : decode cL_law 1032 = .ok (.invokevirtual 94, 3) := bdL_law_1032.1
theorem dL_law_1035 : decode cL_law 1035 = .ok (.pop, 1) := bdL_law_1032.2.1
theorem dL_law_1036 : decode cL_law 1036 = .ok (.goto 191, 3) := bdL_law_1032.2.2.1
theorem dL_law_1039 : decode cL_law 1039 = .ok (.aload_n 1, 1) := bdL_law_1032.2.2.2.1
theorem dL_law_1040 : decode cL_law 1040 = .ok (.aload_n 0, 1) := bdL_law_1032.2.2.2.2.1
theorem dL_law_1041 : decode cL_law 1041 = .ok (.iload_n 3, 1) := bdL_law_1032.2.2.2.2.2.1
theorem dL_law_1042 : decode cL_law 1042 = .ok (.iconst 1, 1) := bdL_law_1032.2.2.2.2.2.2.1
theorem dL_law_1043 : decode cL_law 1043 = .ok (.iadd, 1) := bdL_law_1032.2.2.2.2.2.2.2.1
theorem dL_law_1044 : decode cL_law 1044 = .ok (.iaload, 1) := bdL_law_1032.2.2.2.2.2.2.2.2.1
theorem dL_law_1045 : decode cL_law 1045 = .ok (.aload_n 0, 1) := bdL_law_1032.2.2.2.2.2.2.2.2.2.1
theorem dL_law_1046 : decode cL_law 1046 = .ok (.iload_n 3, 1) := bdL_law_1032.2.2.2.2.2.2.2.2.2.2.1
theorem dL_law_1047 : decode cL_law 1047 = .ok (.iconst 2, 1) := bdL_law_1032.2.2.2.2.2.2.2.2.2.2.2
set_option maxRecDepth 20000 in
theorem bdL_law_1048 : (decode cL_law 1048 = .ok (.iadd, 1)) ∧ (decode cL_law 1049 = .ok (.iaload, 1)) ∧ (decode cL_law 1050 = .ok (.invokevirtual 95, 3)) ∧ (decode cL_law 1053 = .ok (.pop, 1)) ∧ (decode cL_law 1054 = .ok (.aload_n 2, 1)) ∧ (decode cL_law 1055 = .ok (.aload_n 0, 1)) ∧ (decode cL_law 1056 = .ok (.iload_n 3, 1)) ∧ (decode cL_law 1057 = .ok (.iconst 1, 1)) ∧ (decode cL_law 1058 = .ok (.iadd, 1)) ∧ (decode cL_law 1059 = .ok (.iaload, 1)) ∧ (decode cL_law 1060 = .ok (.aload_n 0, 1)) ∧ (decode cL_law 1061 = .ok (.iload_n 3, 1)) := by decide +kernel
theorem dL_law_1048 : decode cL_law 1048 = .ok (.iadd, 1) := bdL_law_1048.1
theorem dL_law_1049 : decode cL_law 1049 = .ok (.iaload, 1) := bdL_law_1048.2.1
theorem dL_law_1050 : decode cL_law 1050 = .ok (.invokevirtual 95, 3) := bdL_law_1048.2.2.1
theorem dL_law_1053 : decode cL_law 1053 = .ok (.pop, 1) := bdL_law_1048.2.2.2.1
theorem dL_law_1054 : decode cL_law 1054 = .ok (.aload_n 2, 1) := bdL_law_1048.2.2.2.2.1
theorem dL_law_1055 : decode cL_law 1055 = .ok (.aload_n 0, 1) := bdL_law_1048.2.2.2.2.2.1
theorem dL_law_1056 : decode cL_law 1056 = .ok (.iload_n 3, 1) := bdL_law_1048.2.2.2.2.2.2.1
theorem dL_law_1057 : decode cL_law 1057 = .ok (.iconst 1, 1) := bdL_law_1048.2.2.2.2.2.2.2.1
theorem dL_law_1058 : decode cL_law 1058 = .ok (.iadd, 1) := bdL_law_1048.2.2.2.2.2.2.2.2.1
theorem dL_law_1059 : decode cL_law 1059 = .ok (.iaload, 1) := bdL_law_1048.2.2.2.2.2.2.2.2.2.1
theorem dL_law_1060 : decode cL_law 1060 = .ok (.aload_n 0, 1) := bdL_law_1048.2.2.2.2.2.2.2.2.2.2.1
theorem dL_law_1061 : decode cL_law 1061 = .ok (.iload_n 3, 1) := bdL_law_1048.2.2.2.2.2.2.2.2.2.2.2
set_option maxRecDepth 20000 in
theorem bdL_law_1062 : (decode cL_law 1062 = .ok (.iconst 2, 1)) ∧ (decode cL_law 1063 = .ok (.iadd, 1)) ∧ (decode cL_law 1064 = .ok (.iaload, 1)) ∧ (decode cL_law 1065 = .ok (.invokevirtual 99, 3)) ∧ (decode cL_law 1068 = .ok (.pop, 1)) ∧ (decode cL_law 1069 = .ok (.goto 158, 3)) ∧ (decode cL_law 1072 = .ok (.aload_n 1, 1)) ∧ (decode cL_law 1073 = .ok (.aload_n 0, 1)) ∧ (decode cL_law 1074 = .ok (.iload_n 3, 1)) ∧ (decode cL_law 1075 = .ok (.iconst 1, 1)) ∧ (decode cL_law 1076 = .ok (.iadd, 1)) ∧ (decode cL_law 1077 = .ok (.iaload, 1)) := by decide +kernel
theorem dL_law_1062 : decode cL_law 1062 = .ok (.iconst 2, 1) := bdL_law_1062.1
theorem dL_law_1063 : decode cL_law 1063 = .ok (.iadd, 1) := bdL_law_1062.2.1
theorem dL_law_1064 : decode cL_law 1064 = .ok (.iaload, 1) := bdL_law_1062.2.2.1
theorem dL_law_1065 : decode cL_law 1065 = .ok (.invokevirtual 99, 3) := bdL_law_1062.2.2.2.1
theorem dL_law_1068 : decode cL_law 1068 = .ok (.pop, 1) := bdL_law_1062.2.2.2.2.1
theorem dL_law_1069 : decode cL_law 1069 = .ok (.goto 158, 3) := bdL_law_1062.2.2.2.2.2.1
theorem dL_law_1072 : decode cL_law 1072 = .ok (.aload_n 1, 1) := bdL_law_1062.2.2.2.2.2.2.1
theorem dL_law_1073 : decode cL_law 1073 = .ok (.aload_n 0, 1) := bdL_law_1062.2.2.2.2.2.2.2.1
theorem dL_law_1074 : decode cL_law 1074 = .ok (.iload_n 3, 1) := bdL_law_1062.2.2.2.2.2.2.2.2.1
theorem dL_law_1075 : decode cL_law 1075 = .ok (.iconst 1, 1) := bdL_law_1062.2.2.2.2.2.2.2.2.2.1
theorem dL_law_1076 : decode cL_law 1076 = .ok (.iadd, 1) := bdL_law_1062.2.2.2.2.2.2.2.2.2.2.1
theorem dL_law_1077 : decode cL_law 1077 = .ok (.iaload, 1) := bdL_law_1062.2.2.2.2.2.2.2.2.2.2.2
set_option maxRecDepth 20000 in
theorem bdL_law_1078 : (decode cL_law 1078 = .ok (.aload_n 0, 1)) ∧ (decode cL_law 1079 = .ok (.iload_n 3, 1)) ∧ (decode cL_law 1080 = .ok (.iconst 2, 1)) ∧ (decode cL_law 1081 = .ok (.iadd, 1)) ∧ (decode cL_law 1082 = .ok (.iaload, 1)) ∧ (decode cL_law 1083 = .ok (.invokevirtual 100, 3)) ∧ (decode cL_law 1086 = .ok (.pop, 1)) ∧ (decode cL_law 1087 = .ok (.aload_n 2, 1)) ∧ (decode cL_law 1088 = .ok (.aload_n 0, 1)) ∧ (decode cL_law 1089 = .ok (.iload_n 3, 1)) ∧ (decode cL_law 1090 = .ok (.iconst 1, 1)) ∧ (decode cL_law 1091 = .ok (.iadd, 1)) := by decide +kernel
theorem dL_law_1078 : decode cL_law 1078 = .ok (.aload_n 0, 1) := bdL_law_1078.1
theorem dL_law_1079 : decode cL_law 1079 = .ok (.iload_n 3, 1) := bdL_law_1078.2.1
theorem dL_law_1080 : decode cL_law 1080 = .ok (.iconst 2, 1) := bdL_law_1078.2.2.1
theorem dL_law_1081 : decode cL_law 1081 = .ok (.iadd, 1) := bdL_law_1078.2.2.2.1
theorem dL_law_1082 : decode cL_law 1082 = .ok (.iaload, 1) := bdL_law_1078.2.2.2.2.1
theorem dL_law_1083 : decode cL_law 1083 = .ok (.invokevirtual 100, 3) := bdL_law_1078.2.2.2.2.2.1
theorem dL_law_1086 : decode cL_law 1086 = .ok (.pop, 1) := bdL_law_1078.2.2.2.2.2.2.1
theorem dL_law_1087 : decode cL_law 1087 = .ok (.aload_n 2, 1) := bdL_law_1078.2.2.2.2.2.2.2.1
theorem dL_law_1088 : decode cL_law 1088 = .ok (.aload_n 0, 1) := bdL_law_1078.2.2.2.2.2.2.2.2.1
theorem dL_law_1089 : decode cL_law 1089 = .ok (.iload_n 3, 1) := bdL_law_1078.2.2.2.2.2.2.2.2.2.1
theorem dL_law_1090 : decode cL_law 1090 = .ok (.iconst 1, 1) := bdL_law_1078.2.2.2.2.2.2.2.2.2.2.1
theorem dL_law_1091 : decode cL_law 1091 = .ok (.iadd, 1) := bdL_law_1078.2.2.2.2.2.2.2.2.2.2.2
set_option maxRecDepth 20000 in
theorem bdL_law_1092 : (decode cL_law 1092 = .ok (.iaload, 1)) ∧ (decode cL_law 1093 = .ok (.aload_n 0, 1)) ∧ (decode cL_law 1094 = .ok (.iload_n 3, 1)) ∧ (decode cL_law 1095 = .ok (.iconst 2, 1)) ∧ (decode cL_law 1096 = .ok (.iadd, 1)) ∧ (decode cL_law 1097 = .ok (.iaload, 1)) ∧ (decode cL_law 1098 = .ok (.invokevirtual 103, 3)) ∧ (decode cL_law 1101 = .ok (.pop, 1)) ∧ (decode cL_law 1102 = .ok (.goto 125, 3)) ∧ (decode cL_law 1105 = .ok (.aload_n 1, 1)) ∧ (decode cL_law 1106 = .ok (.aload_n 0, 1)) ∧ (decode cL_law 1107 = .ok (.iload_n 3, 1)) := by decide +kernel
theorem dL_law_1092 : decode cL_law 1092 = .ok (.iaload, 1) := bdL_law_1092.1
theorem dL_law_1093 : decode cL_law 1093 = .ok (.aload_n 0, 1) := bdL_law_1092.2.1
theorem dL_law_1094 : decode cL_law 1094 = .ok (.iload_n 3, 1) := bdL_law_1092.2.2.1
theorem dL_law_1095 : decode cL_law 1095 = .ok (.iconst 2, 1) := bdL_law_1092.2.2.2.1
theorem dL_law_1096 : decode cL_law 1096 = .ok (.iadd, 1) := bdL_law_1092.2.2.2.2.1
theorem dL_law_1097 : decode cL_law 1097 = .ok (.iaload, 1) := bdL_law_1092.2.2.2.2.2.1
theorem dL_law_1098 : decode cL_law 1098 = .ok (.invokevirtual 103, 3) := bdL_law_1092.2.2.2.2.2.2.1
theorem dL_law_1101 : decode cL_law 1101 = .ok (.pop, 1) := bdL_law_1092.2.2.2.2.2.2.2.1
theorem dL_law_1102 : decode cL_law 1102 = .ok (.goto 125, 3) := bdL_law_1092.2.2.2.2.2.2.2.2.1
theorem dL_law_1105 : decode cL_law 1105 = .ok (.aload_n 1, 1) := bdL_law_1092.2.2.2.2.2.2.2.2.2.1
theorem dL_law_1106 : decode cL_law 1106 = .ok (.aload_n 0, 1) := bdL_law_1092.2.2.2.2.2.2.2.2.2.2.1
theorem dL_law_1107 : decode cL_law 1107 = .ok (.iload_n 3, 1) := bdL_law_1092.2.2.2.2.2.2.2.2.2.2.2
set_option maxRecDepth 20000 in
theorem bdL_law_1108 : (decode cL_law 1108 = .ok (.iconst 1, 1)) ∧ (decode cL_law 1109 = .ok (.iadd, 1)) ∧ (decode cL_law 1110 = .ok (.iaload, 1)) ∧ (decode cL_law 1111 = .ok (.invokevirtual 104, 3)) ∧ (decode cL_law 1114 = .ok (.pop, 1)) ∧ (decode cL_law 1115 = .ok (.aload_n 2, 1)) ∧ (decode cL_law 1116 = .ok (.aload_n 0, 1)) ∧ (decode cL_law 1117 = .ok (.iload_n 3, 1)) ∧ (decode cL_law 1118 = .ok (.iconst 1, 1)) ∧ (decode cL_law 1119 = .ok (.iadd, 1)) ∧ (decode cL_law 1120 = .ok (.iaload, 1)) ∧ (decode cL_law 1121 = .ok (.invokevirtual 107, 3)) := by decide +kernel
theorem dL_law_1108 : decode cL_law 1108 = .ok (.iconst 1, 1) := bdL_law_1108.1
theorem dL_law_1109 : decode cL_law 1109 = .ok (.iadd, 1) := bdL_law_1108.2.1
theorem dL_law_1110 : decode cL_law 1110 = .ok (.iaload, 1) := bdL_law_1108.2.2.1
theorem dL_law_1111 : decode cL_law 1111 = .ok (.invokevirtual 104, 3) := bdL_law_1108.2.2.2.1
theorem dL_law_1114 : decode cL_law 1114 = .ok (.pop, 1) := bdL_law_1108.2.2.2.2.1
theorem dL_law_1115 : decode cL_law 1115 = .ok (.aload_n 2, 1) := bdL_law_1108.2.2.2.2.2.1
theorem dL_law_1116 : decode cL_law 1116 = .ok (.aload_n 0, 1) := bdL_law_1108.2.2.2.2.2.2.1
theorem dL_law_1117 : decode cL_law 1117 = .ok (.iload_n 3, 1) := bdL_law_1108.2.2.2.2.2.2.2.1
theorem dL_law_1118 : decode cL_law 1118 = .ok (.iconst 1, 1) := bdL_law_1108.2.2.2.2.2.2.2.2.1
theorem dL_law_1119 : decode cL_law 1119 = .ok (.iadd, 1) := bdL_law_1108.2.2.2.2.2.2.2.2.2.1
theorem dL_law_1120 : decode cL_law 1120 = .ok (.iaload, 1) := bdL_law_1108.2.2.2.2.2.2.2.2.2.2.1
theorem dL_law_1121 : decode cL_law 1121 = .ok (.invokevirtual 107, 3) := bdL_law_1108.2.2.2.2.2.2.2.2.2.2.2
set_option maxRecDepth 20000 in
theorem bdL_law_1124 : (decode cL_law 1124 = .ok (.pop, 1)) ∧ (decode cL_law 1125 = .ok (.goto 102, 3)) ∧ (decode cL_law 1128 = .ok (.aload_n 1, 1)) ∧ (decode cL_law 1129 = .ok (.aload_n 0, 1)) ∧ (decode cL_law 1130 = .ok (.iload_n 3, 1)) ∧ (decode cL_law 1131 = .ok (.iconst 1, 1)) ∧ (decode cL_law 1132 = .ok (.iadd, 1)) ∧ (decode cL_law 1133 = .ok (.iaload, 1)) ∧ (decode cL_law 1134 = .ok (.aload_n 0, 1)) ∧ (decode cL_law 1135 = .ok (.iload_n 3, 1)) ∧ (decode cL_law 1136 = .ok (.iconst 2, 1)) ∧ (decode cL_law 1137 = .ok (.iadd, 1)) := by decide +kernel
theorem dL_law_1124 : decode cL_law 1124 = .ok (.pop, 1) := bdL_law_1124.1
theorem dL_law_1125 : decode cL_law 1125 = .ok (.goto 102, 3) := bdL_law_1124.2.1
theorem dL_law_1128 : decode cL_law 1128 = .ok (.aload_n 1, 1) := bdL_law_1124.2.2.1
theorem dL_law_1129 : decode cL_law 1129 = .ok (.aload_n 0, 1) := bdL_law_1124.2.2.2.1
theorem dL_law_1130 : decode cL_law 1130 = .ok (.iload_n 3, 1) := bdL_law_1124.2.2.2.2.1
theorem dL_law_1131 : decode cL_law 1131 = .ok (.iconst 1, 1) := bdL_law_1124.2.2.2.2.2.1
theorem dL_law_1132 : decode cL_law 1132 = .ok (.iadd, 1) := bdL_law_1124.2.2.2.2.2.2.1
theorem dL_law_1133 : decode cL_law 1133 = .ok (.iaload, 1) := bdL_law_1124.2.2.2.2.2.2.2.1
theorem dL_law_1134 : decode cL_law 1134 = .ok (.aload_n 0, 1) := bdL_law_1124.2.2.2.2.2.2.2.2.1
theorem dL_law_1135 : decode cL_law 1135 = .ok (.iload_n 3, 1) := bdL_law_1124.2.2.2.2.2.2.2.2.2.1
theorem dL_law_1136 : decode cL_law 1136 = .ok (.iconst 2, 1) := bdL_law_1124.2.2.2.2.2.2.2.2.2.2.1
theorem dL_law_1137 : decode cL_law 1137 = .ok (.iadd, 1) := bdL_law_1124.2.2.2.2.2.2.2.2.2.2.2
set_option maxRecDepth 20000 in
theorem bdL_law_1138 : (decode cL_law 1138 = .ok (.iaload, 1)) ∧ (decode cL_law 1139 = .ok (.invokevirtual 108, 3)) ∧ (decode cL_law 1142 = .ok (.pop, 1)) ∧ (decode cL_law 1143 = .ok (.aload_n 2, 1)) ∧ (decode cL_law 1144 = .ok (.aload_n 0, 1)) ∧ (decode cL_law 1145 = .ok (.iload_n 3, 1)) ∧ (decode cL_law 1146 = .ok (.iconst 1, 1)) ∧ (decode cL_law 1147 = .ok (.iadd, 1)) ∧ (decode cL_law 1148 = .ok (.iaload, 1)) ∧ (decode cL_law 1149 = .ok (.aload_n 0, 1)) ∧ (decode cL_law 1150 = .ok (.iload_n 3, 1)) ∧ (decode cL_law 1151 = .ok (.iconst 2, 1)) := by decide +kernel
theorem dL_law_1138 : decode cL_law 1138 = .ok (.iaload, 1) := bdL_law_1138.1
theorem dL_law_1139 : decode cL_law 1139 = .ok (.invokevirtual 108, 3) := bdL_law_1138.2.1
theorem dL_law_1142 : decode cL_law 1142 = .ok (.pop, 1) := bdL_law_1138.2.2.1
theorem dL_law_1143 : decode cL_law 1143 = .ok (.aload_n 2, 1) := bdL_law_1138.2.2.2.1
theorem dL_law_1144 : decode cL_law 1144 = .ok (.aload_n 0, 1) := bdL_law_1138.2.2.2.2.1
theorem dL_law_1145 : decode cL_law 1145 = .ok (.iload_n 3, 1) := bdL_law_1138.2.2.2.2.2.1
theorem dL_law_1146 : decode cL_law 1146 = .ok (.iconst 1, 1) := bdL_law_1138.2.2.2.2.2.2.1
theorem dL_law_1147 : decode cL_law 1147 = .ok (.iadd, 1) := bdL_law_1138.2.2.2.2.2.2.2.1
theorem dL_law_1148 : decode cL_law 1148 = .ok (.iaload, 1) := bdL_law_1138.2.2.2.2.2.2.2.2.1
theorem dL_law_1149 : decode cL_law 1149 = .ok (.aload_n 0, 1) := bdL_law_1138.2.2.2.2.2.2.2.2.2.1
theorem dL_law_1150 : decode cL_law 1150 = .ok (.iload_n 3, 1) := bdL_law_1138.2.2.2.2.2.2.2.2.2.2.1
theorem dL_law_1151 : decode cL_law 1151 = .ok (.iconst 2, 1) := bdL_law_1138.2.2.2.2.2.2.2.2.2.2.2
set_option maxRecDepth 20000 in
theorem bdL_law_1152 : (decode cL_law 1152 = .ok (.iadd, 1)) ∧ (decode cL_law 1153 = .ok (.iaload, 1)) ∧ (decode cL_law 1154 = .ok (.invokevirtual 111, 3)) ∧ (decode cL_law 1157 = .ok (.pop, 1)) ∧ (decode cL_law 1158 = .ok (.goto 69, 3)) ∧ (decode cL_law 1161 = .ok (.aload_n 1, 1)) ∧ (decode cL_law 1162 = .ok (.aload_n 0, 1)) ∧ (decode cL_law 1163 = .ok (.iload_n 3, 1)) ∧ (decode cL_law 1164 = .ok (.iconst 1, 1)) ∧ (decode cL_law 1165 = .ok (.iadd, 1)) ∧ (decode cL_law 1166 = .ok (.iaload, 1)) ∧ (decode cL_law 1167 = .ok (.aload_n 0, 1)) := by decide +kernel
theorem dL_law_1152 : decode cL_law 1152 = .ok (.iadd, 1) := bdL_law_1152.1
theorem dL_law_1153 : decode cL_law 1153 = .ok (.iaload, 1) := bdL_law_1152.2.1
theorem dL_law_1154 : decode cL_law 1154 = .ok (.invokevirtual 111, 3) := bdL_law_1152.2.2.1
theorem dL_law_1157 : decode cL_law 1157 = .ok (.pop, 1) := bdL_law_1152.2.2.2.1
theorem dL_law_1158 : decode cL_law 1158 = .ok (.goto 69, 3) := bdL_law_1152.2.2.2.2.1
theorem dL_law_1161 : decode cL_law 1161 = .ok (.aload_n 1, 1) := bdL_law_1152.2.2.2.2.2.1
theorem dL_law_1162 : decode cL_law 1162 = .ok (.aload_n 0, 1) := bdL_law_1152.2.2.2.2.2.2.1
theorem dL_law_1163 : decode cL_law 1163 = .ok (.iload_n 3, 1) := bdL_law_1152.2.2.2.2.2.2.2.1
theorem dL_law_1164 : decode cL_law 1164 = .ok (.iconst 1, 1) := bdL_law_1152.2.2.2.2.2.2.2.2.1
theorem dL_law_1165 : decode cL_law 1165 = .ok (.iadd, 1) := bdL_law_1152.2.2.2.2.2.2.2.2.2.1
theorem dL_law_1166 : decode cL_law 1166 = .ok (.iaload, 1) := bdL_law_1152.2.2.2.2.2.2.2.2.2.2.1
theorem dL_law_1167 : decode cL_law 1167 = .ok (.aload_n 0, 1) := bdL_law_1152.2.2.2.2.2.2.2.2.2.2.2
set_option maxRecDepth 20000 in
theorem bdL_law_1168 : (decode cL_law 1168 = .ok (.iload_n 3, 1)) ∧ (decode cL_law 1169 = .ok (.iconst 2, 1)) ∧ (decode cL_law 1170 = .ok (.iadd, 1)) ∧ (decode cL_law 1171 = .ok (.iaload, 1)) ∧ (decode cL_law 1172 = .ok (.aload_n 0, 1)) ∧ (decode cL_law 1173 = .ok (.iload_n 3, 1)) ∧ (decode cL_law 1174 = .ok (.iconst 3, 1)) ∧ (decode cL_law 1175 = .ok (.iadd, 1)) ∧ (decode cL_law 1176 = .ok (.iaload, 1)) ∧ (decode cL_law 1177 = .ok (.invokevirtual 112, 3)) ∧ (decode cL_law 1180 = .ok (.pop, 1)) ∧ (decode cL_law 1181 = .ok (.aload_n 2, 1)) := by decide +kernel
theorem dL_law_1168 : decode cL_law 1168 = .ok (.iload_n 3, 1) := bdL_law_1168.1
theorem dL_law_1169 : decode cL_law 1169 = .ok (.iconst 2, 1) := bdL_law_1168.2.1
theorem dL_law_1170 : decode cL_law 1170 = .ok (.iadd, 1) := bdL_law_1168.2.2.1
theorem dL_law_1171 : decode cL_law 1171 = .ok (.iaload, 1) := bdL_law_1168.2.2.2.1
theorem dL_law_1172 : decode cL_law 1172 = .ok (.aload_n 0, 1) := bdL_law_1168.2.2.2.2.1
theorem dL_law_1173 : decode cL_law 1173 = .ok (.iload_n 3, 1) := bdL_law_1168.2.2.2.2.2.1
theorem dL_law_1174 : decode cL_law 1174 = .ok (.iconst 3, 1) := bdL_law_1168.2.2.2.2.2.2.1
theorem dL_law_1175 : decode cL_law 1175 = .ok (.iadd, 1) := bdL_law_1168.2.2.2.2.2.2.2.1
theorem dL_law_1176 : decode cL_law 1176 = .ok (.iaload, 1) := bdL_law_1168.2.2.2.2.2.2.2.2.1
theorem dL_law_1177 : decode cL_law 1177 = .ok (.invokevirtual 112, 3) := bdL_law_1168.2.2.2.2.2.2.2.2.2.1
theorem dL_law_1180 : decode cL_law 1180 = .ok (.pop, 1) := bdL_law_1168.2.2.2.2.2.2.2.2.2.2.1
theorem dL_law_1181 : decode cL_law 1181 = .ok (.aload_n 2, 1) := bdL_law_1168.2.2.2.2.2.2.2.2.2.2.2
set_option maxRecDepth 20000 in
theorem bdL_law_1182 : (decode cL_law 1182 = .ok (.aload_n 0, 1)) ∧ (decode cL_law 1183 = .ok (.iload_n 3, 1)) ∧ (decode cL_law 1184 = .ok (.iconst 1, 1)) ∧ (decode cL_law 1185 = .ok (.iadd, 1)) ∧ (decode cL_law 1186 = .ok (.iaload, 1)) ∧ (decode cL_law 1187 = .ok (.aload_n 0, 1)) ∧ (decode cL_law 1188 = .ok (.iload_n 3, 1)) ∧ (decode cL_law 1189 = .ok (.iconst 2, 1)) ∧ (decode cL_law 1190 = .ok (.iadd, 1)) ∧ (decode cL_law 1191 = .ok (.iaload, 1)) ∧ (decode cL_law 1192 = .ok (.aload_n 0, 1)) ∧ (decode cL_law 1193 = .ok (.iload_n 3, 1)) := by decide +kernel
theorem dL_law_1182 : decode cL_law 1182 = .ok (.aload_n 0, 1) := bdL_law_1182.1
theorem dL_law_1183 : decode cL_law 1183 = .ok (.iload_n 3, 1) := bdL_law_1182.2.1
theorem dL_law_1184 : decode cL_law 1184 = .ok (.iconst 1, 1) := bdL_law_1182.2.2.1
theorem dL_law_1185 : decode cL_law 1185 = .ok (.iadd, 1) := bdL_law_1182.2.2.2.1
theorem dL_law_1186 : decode cL_law 1186 = .ok (.iaload, 1) := bdL_law_1182.2.2.2.2.1
theorem dL_law_1187 : decode cL_law 1187 = .ok (.aload_n 0, 1) := bdL_law_1182.2.2.2.2.2.1
theorem dL_law_1188 : decode cL_law 1188 = .ok (.iload_n 3, 1) := bdL_law_1182.2.2.2.2.2.2.1
theorem dL_law_1189 : decode cL_law 1189 = .ok (.iconst 2, 1) := bdL_law_1182.2.2.2.2.2.2.2.1
theorem dL_law_1190 : decode cL_law 1190 = .ok (.iadd, 1) := bdL_law_1182.2.2.2.2.2.2.2.2.1
theorem dL_law_1191 : decode cL_law 1191 = .ok (.iaload, 1) := bdL_law_1182.2.2.2.2.2.2.2.2.2.1
theorem dL_law_1192 : decode cL_law 1192 = .ok (.aload_n 0, 1) := bdL_law_1182.2.2.2.2.2.2.2.2.2.2.1
theorem dL_law_1193 : decode cL_law 1193 = .ok (.iload_n 3, 1) := bdL_law_1182.2.2.2.2.2.2.2.2.2.2.2
set_option maxRecDepth 20000 in
theorem bdL_law_1194 : (decode cL_law 1194 = .ok (.iconst 3, 1)) ∧ (decode cL_law 1195 = .ok (.iadd, 1)) ∧ (decode cL_law 1196 = .ok (.iaload, 1)) ∧ (decode cL_law 1197 = .ok (.invokevirtual 116, 3)) ∧ (decode cL_law 1200 = .ok (.pop, 1)) ∧ (decode cL_law 1201 = .ok (.goto 26, 3)) ∧ (decode cL_law 1204 = .ok (.aload_n 1, 1)) ∧ (decode cL_law 1205 = .ok (.aload_n 0, 1)) ∧ (decode cL_law 1206 = .ok (.iload_n 3, 1)) ∧ (decode cL_law 1207 = .ok (.iconst 1, 1)) ∧ (decode cL_law 1208 = .ok (.iadd, 1)) ∧ (decode cL_law 1209 = .ok (.iaload, 1)) := by decide +kernel
theorem dL_law_1194 : decode cL_law 1194 = .ok (.iconst 3, 1) := bdL_law_1194.1
theorem dL_law_1195 : decode cL_law 1195 = .ok (.iadd, 1) := bdL_law_1194.2.1
theorem dL_law_1196 : decode cL_law 1196 = .ok (.iaload, 1) := bdL_law_1194.2.2.1
theorem dL_law_1197 : decode cL_law 1197 = .ok (.invokevirtual 116, 3) := bdL_law_1194.2.2.2.1
theorem dL_law_1200 : decode cL_law 1200 = .ok (.pop, 1) := bdL_law_1194.2.2.2.2.1
theorem dL_law_1201 : decode cL_law 1201 = .ok (.goto 26, 3) := bdL_law_1194.2.2.2.2.2.1
theorem dL_law_1204 : decode cL_law 1204 = .ok (.aload_n 1, 1) := bdL_law_1194.2.2.2.2.2.2.1
theorem dL_law_1205 : decode cL_law 1205 = .ok (.aload_n 0, 1) := bdL_law_1194.2.2.2.2.2.2.2.1
theorem dL_law_1206 : decode cL_law 1206 = .ok (.iload_n 3, 1) := bdL_law_1194.2.2.2.2.2.2.2.2.1
theorem dL_law_1207 : decode cL_law 1207 = .ok (.iconst 1, 1) := bdL_law_1194.2.2.2.2.2.2.2.2.2.1
theorem dL_law_1208 : decode cL_law 1208 = .ok (.iadd, 1) := bdL_law_1194.2.2.2.2.2.2.2.2.2.2.1
theorem dL_law_1209 : decode cL_law 1209 = .ok (.iaload, 1) := bdL_law_1194.2.2.2.2.2.2.2.2.2.2.2
set_option maxRecDepth 20000 in
theorem bdL_law_1210 : (decode cL_law 1210 = .ok (.invokevirtual 117, 3)) ∧ (decode cL_law 1213 = .ok (.pop, 1)) ∧ (decode cL_law 1214 = .ok (.aload_n 2, 1)) ∧ (decode cL_law 1215 = .ok (.aload_n 0, 1)) ∧ (decode cL_law 1216 = .ok (.iload_n 3, 1)) ∧ (decode cL_law 1217 = .ok (.iconst 1, 1)) ∧ (decode cL_law 1218 = .ok (.iadd, 1)) ∧ (decode cL_law 1219 = .ok (.iaload, 1)) ∧ (decode cL_law 1220 = .ok (.invokevirtual 120, 3)) ∧ (decode cL_law 1223 = .ok (.pop, 1)) ∧ (decode cL_law 1224 = .ok (.goto 3, 3)) ∧ (decode cL_law 1227 = .ok (.iinc 3 9, 3)) := by decide +kernel
theorem dL_law_1210 : decode cL_law 1210 = .ok (.invokevirtual 117, 3) := bdL_law_1210.1
theorem dL_law_1213 : decode cL_law 1213 = .ok (.pop, 1) := bdL_law_1210.2.1
theorem dL_law_1214 : decode cL_law 1214 = .ok (.aload_n 2, 1) := bdL_law_1210.2.2.1
theorem dL_law_1215 : decode cL_law 1215 = .ok (.aload_n 0, 1) := bdL_law_1210.2.2.2.1
theorem dL_law_1216 : decode cL_law 1216 = .ok (.iload_n 3, 1) := bdL_law_1210.2.2.2.2.1
theorem dL_law_1217 : decode cL_law 1217 = .ok (.iconst 1, 1) := bdL_law_1210.2.2.2.2.2.1
theorem dL_law_1218 : decode cL_law 1218 = .ok (.iadd, 1) := bdL_law_1210.2.2.2.2.2.2.1
theorem dL_law_1219 : decode cL_law 1219 = .ok (.iaload, 1) := bdL_law_1210.2.2.2.2.2.2.2.1
theorem dL_law_1220 : decode cL_law 1220 = .ok (.invokevirtual 120, 3) := bdL_law_1210.2.2.2.2.2.2.2.2.1
theorem dL_law_1223 : decode cL_law 1223 = .ok (.pop, 1) := bdL_law_1210.2.2.2.2.2.2.2.2.2.1
theorem dL_law_1224 : decode cL_law 1224 = .ok (.goto 3, 3) := bdL_law_1210.2.2.2.2.2.2.2.2.2.2.1
theorem dL_law_1227 : decode cL_law 1227 = .ok (.iinc 3 9, 3) := bdL_law_1210.2.2.2.2.2.2.2.2.2.2.2
set_option maxRecDepth 20000 in
theorem bdL_law_1230 : (decode cL_law 1230 = .ok (.goto (-1200), 3)) ∧ (decode cL_law 1233 = .ok (.iconst 1, 1)) ∧ (decode cL_law 1234 = .ok (.ireturn, 1)) := by decide +kernel
theorem dL_law_1230 : decode cL_law 1230 = .ok (.goto (-1200), 3) := bdL_law_1230.1
theorem dL_law_1233 : decode cL_law 1233 = .ok (.iconst 1, 1) := bdL_law_1230.2.1
theorem dL_law_1234 : decode cL_law 1234 = .ok (.ireturn, 1) := bdL_law_1230.2.2
