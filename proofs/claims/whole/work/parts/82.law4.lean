theorem d_Law_law_613 : decode code 613 = .ok (.iload 4, 2) := by decide +kernel
theorem d_Law_law_615 : decode code 615 = .ok (.iconst 1, 1) := by decide +kernel
theorem d_Law_law_616 : decode code 616 = .ok (.iadd, 1) := by decide +kernel
theorem d_Law_law_617 : decode code 617 = .ok (.iaload, 1) := by decide +kernel
theorem d_Law_law_618 : decode code 618 = .ok (.invokevirtual 90, 3) := by decide +kernel
theorem d_Law_law_621 : decode code 621 = .ok (.aload_n 2, 1) := by decide +kernel
theorem d_Law_law_622 : decode code 622 = .ok (.aload_n 0, 1) := by decide +kernel
theorem d_Law_law_623 : decode code 623 = .ok (.iload 4, 2) := by decide +kernel
theorem d_Law_law_625 : decode code 625 = .ok (.iconst 1, 1) := by decide +kernel
theorem d_Law_law_626 : decode code 626 = .ok (.iadd, 1) := by decide +kernel
theorem d_Law_law_627 : decode code 627 = .ok (.iaload, 1) := by decide +kernel
theorem d_Law_law_628 : decode code 628 = .ok (.invokevirtual 93, 3) := by decide +kernel
theorem d_Law_law_631 : decode code 631 = .ok (.if_icmp .eq 166, 3) := by decide +kernel
theorem d_Law_law_634 : decode code 634 = .ok (.iconst 0, 1) := by decide +kernel
theorem d_Law_law_636 : decode code 636 = .ok (.aload_n 1, 1) := by decide +kernel
theorem d_Law_law_637 : decode code 637 = .ok (.aload_n 0, 1) := by decide +kernel
theorem d_Law_law_638 : decode code 638 = .ok (.iload 4, 2) := by decide +kernel
theorem d_Law_law_640 : decode code 640 = .ok (.iconst 1, 1) := by decide +kernel
theorem d_Law_law_641 : decode code 641 = .ok (.iadd, 1) := by decide +kernel
theorem d_Law_law_642 : decode code 642 = .ok (.iaload, 1) := by decide +kernel
theorem d_Law_law_643 : decode code 643 = .ok (.aload_n 0, 1) := by decide +kernel
theorem d_Law_law_644 : decode code 644 = .ok (.iload 4, 2) := by decide +kernel
theorem d_Law_law_646 : decode code 646 = .ok (.iconst 2, 1) := by decide +kernel
theorem d_Law_law_647 : decode code 647 = .ok (.iadd, 1) := by decide +kernel
theorem d_Law_law_648 : decode code 648 = .ok (.iaload, 1) := by decide +kernel
theorem d_Law_law_649 : decode code 649 = .ok (.invokevirtual 94, 3) := by decide +kernel
theorem d_Law_law_652 : decode code 652 = .ok (.aload_n 2, 1) := by decide +kernel
theorem d_Law_law_653 : decode code 653 = .ok (.aload_n 0, 1) := by decide +kernel
theorem d_Law_law_654 : decode code 654 = .ok (.iload 4, 2) := by decide +kernel
theorem d_Law_law_656 : decode code 656 = .ok (.iconst 1, 1) := by decide +kernel
theorem d_Law_law_657 : decode code 657 = .ok (.iadd, 1) := by decide +kernel
theorem d_Law_law_658 : decode code 658 = .ok (.iaload, 1) := by decide +kernel
theorem d_Law_law_659 : decode code 659 = .ok (.aload_n 0, 1) := by decide +kernel
theorem d_Law_law_660 : decode code 660 = .ok (.iload 4, 2) := by decide +kernel
theorem d_Law_law_662 : decode code 662 = .ok (.iconst 2, 1) := by decide +kernel
theorem d_Law_law_663 : decode code 663 = .ok (.iadd, 1) := by decide +kernel
theorem d_Law_law_664 : decode code 664 = .ok (.iaload, 1) := by decide +kernel
theorem d_Law_law_665 : decode code 665 = .ok (.invokevirtual 97, 3) := by decide +kernel
theorem d_Law_law_668 : decode code 668 = .ok (.if_icmp .eq 129, 3) := by decide +kernel
theorem d_Law_law_671 : decode code 671 = .ok (.iconst 0, 1) := by decide +kernel
theorem d_Law_law_673 : decode code 673 = .ok (.aload_n 1, 1) := by decide +kernel
theorem d_Law_law_674 : decode code 674 = .ok (.aload_n 0, 1) := by decide +kernel
theorem d_Law_law_675 : decode code 675 = .ok (.iload 4, 2) := by decide +kernel
theorem d_Law_law_677 : decode code 677 = .ok (.iconst 1, 1) := by decide +kernel
theorem d_Law_law_678 : decode code 678 = .ok (.iadd, 1) := by decide +kernel
theorem d_Law_law_679 : decode code 679 = .ok (.iaload, 1) := by decide +kernel
theorem d_Law_law_680 : decode code 680 = .ok (.aload_n 0, 1) := by decide +kernel
theorem d_Law_law_681 : decode code 681 = .ok (.iload 4, 2) := by decide +kernel
theorem d_Law_law_683 : decode code 683 = .ok (.iconst 2, 1) := by decide +kernel
theorem d_Law_law_684 : decode code 684 = .ok (.iadd, 1) := by decide +kernel
theorem d_Law_law_685 : decode code 685 = .ok (.iaload, 1) := by decide +kernel
theorem d_Law_law_686 : decode code 686 = .ok (.invokevirtual 98, 3) := by decide +kernel
theorem d_Law_law_689 : decode code 689 = .ok (.aload_n 2, 1) := by decide +kernel
theorem d_Law_law_690 : decode code 690 = .ok (.aload_n 0, 1) := by decide +kernel
theorem d_Law_law_691 : decode code 691 = .ok (.iload 4, 2) := by decide +kernel
theorem d_Law_law_693 : decode code 693 = .ok (.iconst 1, 1) := by decide +kernel
theorem d_Law_law_694 : decode code 694 = .ok (.iadd, 1) := by decide +kernel
theorem d_Law_law_695 : decode code 695 = .ok (.iaload, 1) := by decide +kernel
theorem d_Law_law_696 : decode code 696 = .ok (.aload_n 0, 1) := by decide +kernel
theorem d_Law_law_697 : decode code 697 = .ok (.iload 4, 2) := by decide +kernel
theorem d_Law_law_699 : decode code 699 = .ok (.iconst 2, 1) := by decide +kernel
theorem d_Law_law_700 : decode code 700 = .ok (.iadd, 1) := by decide +kernel
theorem d_Law_law_701 : decode code 701 = .ok (.iaload, 1) := by decide +kernel
theorem d_Law_law_702 : decode code 702 = .ok (.invokevirtual 101, 3) := by decide +kernel
theorem d_Law_law_705 : decode code 705 = .ok (.if_icmp .eq 92, 3) := by decide +kernel
theorem d_Law_law_708 : decode code 708 = .ok (.iconst 0, 1) := by decide +kernel
theorem d_Law_law_710 : decode code 710 = .ok (.aload_n 1, 1) := by decide +kernel
theorem d_Law_law_711 : decode code 711 = .ok (.aload_n 0, 1) := by decide +kernel
theorem d_Law_law_712 : decode code 712 = .ok (.iload 4, 2) := by decide +kernel
theorem d_Law_law_714 : decode code 714 = .ok (.iconst 1, 1) := by decide +kernel
theorem d_Law_law_715 : decode code 715 = .ok (.iadd, 1) := by decide +kernel
theorem d_Law_law_716 : decode code 716 = .ok (.iaload, 1) := by decide +kernel
theorem d_Law_law_717 : decode code 717 = .ok (.aload_n 0, 1) := by decide +kernel
theorem d_Law_law_718 : decode code 718 = .ok (.iload 4, 2) := by decide +kernel
theorem d_Law_law_720 : decode code 720 = .ok (.iconst 2, 1) := by decide +kernel
theorem d_Law_law_721 : decode code 721 = .ok (.iadd, 1) := by decide +kernel
theorem d_Law_law_722 : decode code 722 = .ok (.iaload, 1) := by decide +kernel
theorem d_Law_law_723 : decode code 723 = .ok (.invokevirtual 102, 3) := by decide +kernel
theorem d_Law_law_726 : decode code 726 = .ok (.aload_n 2, 1) := by decide +kernel
theorem d_Law_law_727 : decode code 727 = .ok (.aload_n 0, 1) := by decide +kernel
theorem d_Law_law_728 : decode code 728 = .ok (.iload 4, 2) := by decide +kernel
theorem d_Law_law_730 : decode code 730 = .ok (.iconst 1, 1) := by decide +kernel
theorem d_Law_law_731 : decode code 731 = .ok (.iadd, 1) := by decide +kernel
theorem d_Law_law_732 : decode code 732 = .ok (.iaload, 1) := by decide +kernel
theorem d_Law_law_733 : decode code 733 = .ok (.aload_n 0, 1) := by decide +kernel
theorem d_Law_law_734 : decode code 734 = .ok (.iload 4, 2) := by decide +kernel
theorem d_Law_law_736 : decode code 736 = .ok (.iconst 2, 1) := by decide +kernel
