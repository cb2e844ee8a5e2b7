theorem dL_law_566 : decode code 566 = .ok (.invokevirtual 67, 3) := by decide +kernel
theorem dL_law_569 : decode code 569 = .ok (.aload_n 2, 1) := by decide +kernel
theorem dL_law_570 : decode code 570 = .ok (.aload_n 0, 1) := by decide +kernel
theorem dL_law_571 : decode code 571 = .ok (.iload_n 3, 1) := by decide +kernel
theorem dL_law_572 : decode code 572 = .ok (.iconst 1, 1) := by decide +kernel
theorem dL_law_573 : decode code 573 = .ok (.iadd, 1) := by decide +kernel
theorem dL_law_574 : decode code 574 = .ok (.iaload, 1) := by decide +kernel
theorem dL_law_575 : decode code 575 = .ok (.invokevirtual 70, 3) := by decide +kernel
theorem dL_law_578 : decode code 578 = .ok (.if_icmp .eq 601, 3) := by decide +kernel
theorem dL_law_581 : decode code 581 = .ok (.iconst 0, 1) := by decide +kernel
theorem dL_law_582 : decode code 582 = .ok (.ireturn, 1) := by decide +kernel
theorem dL_law_583 : decode code 583 = .ok (.aload_n 1, 1) := by decide +kernel
theorem dL_law_584 : decode code 584 = .ok (.aload_n 0, 1) := by decide +kernel
theorem dL_law_585 : decode code 585 = .ok (.iload_n 3, 1) := by decide +kernel
theorem dL_law_586 : decode code 586 = .ok (.iconst 1, 1) := by decide +kernel
theorem dL_law_587 : decode code 587 = .ok (.iadd, 1) := by decide +kernel
theorem dL_law_588 : decode code 588 = .ok (.iaload, 1) := by decide +kernel
theorem dL_law_589 : decode code 589 = .ok (.aload_n 0, 1) := by decide +kernel
theorem dL_law_590 : decode code 590 = .ok (.iload_n 3, 1) := by decide +kernel
theorem dL_law_591 : decode code 591 = .ok (.iconst 2, 1) := by decide +kernel
theorem dL_law_592 : decode code 592 = .ok (.iadd, 1) := by decide +kernel
theorem dL_law_593 : decode code 593 = .ok (.iaload, 1) := by decide +kernel
theorem dL_law_594 : decode code 594 = .ok (.invokevirtual 71, 3) := by decide +kernel
theorem dL_law_597 : decode code 597 = .ok (.aload_n 2, 1) := by decide +kernel
theorem dL_law_598 : decode code 598 = .ok (.aload_n 0, 1) := by decide +kernel
theorem dL_law_599 : decode code 599 = .ok (.iload_n 3, 1) := by decide +kernel
theorem dL_law_600 : decode code 600 = .ok (.iconst 1, 1) := by decide +kernel
theorem dL_law_601 : decode code 601 = .ok (.iadd, 1) := by decide +kernel
theorem dL_law_602 : decode code 602 = .ok (.iaload, 1) := by decide +kernel
theorem dL_law_603 : decode code 603 = .ok (.aload_n 0, 1) := by decide +kernel
theorem dL_law_604 : decode code 604 = .ok (.iload_n 3, 1) := by decide +kernel
theorem dL_law_605 : decode code 605 = .ok (.iconst 2, 1) := by decide +kernel
theorem dL_law_606 : decode code 606 = .ok (.iadd, 1) := by decide +kernel
theorem dL_law_607 : decode code 607 = .ok (.iaload, 1) := by decide +kernel
theorem dL_law_608 : decode code 608 = .ok (.invokevirtual 74, 3) := by decide +kernel
theorem dL_law_611 : decode code 611 = .ok (.if_icmp .eq 568, 3) := by decide +kernel
theorem dL_law_614 : decode code 614 = .ok (.iconst 0, 1) := by decide +kernel
theorem dL_law_615 : decode code 615 = .ok (.ireturn, 1) := by decide +kernel
theorem dL_law_616 : decode code 616 = .ok (.aload_n 1, 1) := by decide +kernel
theorem dL_law_617 : decode code 617 = .ok (.aload_n 0, 1) := by decide +kernel
theorem dL_law_618 : decode code 618 = .ok (.iload_n 3, 1) := by decide +kernel
theorem dL_law_619 : decode code 619 = .ok (.iconst 1, 1) := by decide +kernel
theorem dL_law_620 : decode code 620 = .ok (.iadd, 1) := by decide +kernel
theorem dL_law_621 : decode code 621 = .ok (.iaload, 1) := by decide +kernel
theorem dL_law_622 : decode code 622 = .ok (.invokevirtual 75, 3) := by decide +kernel
theorem dL_law_625 : decode code 625 = .ok (.aload_n 2, 1) := by decide +kernel
theorem dL_law_626 : decode code 626 = .ok (.aload_n 0, 1) := by decide +kernel
theorem dL_law_627 : decode code 627 = .ok (.iload_n 3, 1) := by decide +kernel
theorem dL_law_628 : decode code 628 = .ok (.iconst 1, 1) := by decide +kernel
theorem dL_law_629 : decode code 629 = .ok (.iadd, 1) := by decide +kernel
theorem dL_law_630 : decode code 630 = .ok (.iaload, 1) := by decide +kernel
theorem dL_law_631 : decode code 631 = .ok (.invokevirtual 78, 3) := by decide +kernel
theorem dL_law_634 : decode code 634 = .ok (.if_icmp .eq 545, 3) := by decide +kernel
theorem dL_law_637 : decode code 637 = .ok (.iconst 0, 1) := by decide +kernel
theorem dL_law_638 : decode code 638 = .ok (.ireturn, 1) := by decide +kernel
theorem dL_law_639 : decode code 639 = .ok (.aload_n 1, 1) := by decide +kernel
theorem dL_law_640 : decode code 640 = .ok (.aload_n 0, 1) := by decide +kernel
theorem dL_law_641 : decode code 641 = .ok (.iload_n 3, 1) := by decide +kernel
theorem dL_law_642 : decode code 642 = .ok (.iconst 1, 1) := by decide +kernel
theorem dL_law_643 : decode code 643 = .ok (.iadd, 1) := by decide +kernel
theorem dL_law_644 : decode code 644 = .ok (.iaload, 1) := by decide +kernel
theorem dL_law_645 : decode code 645 = .ok (.invokevirtual 79, 3) := by decide +kernel
theorem dL_law_648 : decode code 648 = .ok (.aload_n 2, 1) := by decide +kernel
theorem dL_law_649 : decode code 649 = .ok (.aload_n 0, 1) := by decide +kernel
theorem dL_law_650 : decode code 650 = .ok (.iload_n 3, 1) := by decide +kernel
theorem dL_law_651 : decode code 651 = .ok (.iconst 1, 1) := by decide +kernel
theorem dL_law_652 : decode code 652 = .ok (.iadd, 1) := by decide +kernel
theorem dL_law_653 : decode code 653 = .ok (.iaload, 1) := by decide +kernel
theorem dL_law_654 : decode code 654 = .ok (.invokevirtual 82, 3) := by decide +kernel
theorem dL_law_657 : decode code 657 = .ok (.if_icmp .eq 522, 3) := by decide +kernel
theorem dL_law_660 : decode code 660 = .ok (.iconst 0, 1) := by decide +kernel
theorem dL_law_661 : decode code 661 = .ok (.ireturn, 1) := by decide +kernel
theorem dL_law_662 : decode code 662 = .ok (.aload_n 1, 1) := by decide +kernel
theorem dL_law_663 : decode code 663 = .ok (.aload_n 0, 1) := by decide +kernel
theorem dL_law_664 : decode code 664 = .ok (.iload_n 3, 1) := by decide +kernel
theorem dL_law_665 : decode code 665 = .ok (.iconst 1, 1) := by decide +kernel
theorem dL_law_666 : decode code 666 = .ok (.iadd, 1) := by decide +kernel
theorem dL_law_667 : decode code 667 = .ok (.iaload, 1) := by decide +kernel
theorem dL_law_668 : decode code 668 = .ok (.invokevirtual 83, 3) := by decide +kernel
theorem dL_law_671 : decode code 671 = .ok (.aload_n 2, 1) := by decide +kernel
theorem dL_law_672 : decode code 672 = .ok (.aload_n 0, 1) := by decide +kernel
theorem dL_law_673 : decode code 673 = .ok (.iload_n 3, 1) := by decide +kernel
theorem dL_law_674 : decode code 674 = .ok (.iconst 1, 1) := by decide +kernel
theorem dL_law_675 : decode code 675 = .ok (.iadd, 1) := by decide +kernel
theorem dL_law_676 : decode code 676 = .ok (.iaload, 1) := by decide +kernel
theorem dL_law_677 : decode code 677 = .ok (.invokevirtual 86, 3) := by decide +kernel
theorem dL_law_680 : decode code 680 = .ok (.if_icmp .eq 499, 3) := by decide +kernel
theorem dL_law_683 : decode code 683 = .ok (.iconst 0, 1) := by decide +kernel
theorem dL_law_684 : decode code 684 = .ok (.ireturn, 1) := by decide +kernel
theorem dL_law_685 : decode code 685 = .ok (.aload_n 1, 1) := by decide +kernel
theorem dL_law_686 : decode code 686 = .ok (.invokevirtual 87, 3) := by decide +kernel
theorem dL_law_689 : decode code 689 = .ok (.aload_n 2, 1) := by decide +kernel
theorem dL_law_690 : decode code 690 = .ok (.invokevirtual 91, 3) := by decide +kernel
theorem dL_law_693 : decode code 693 = .ok (.if_icmp .eq 486, 3) := by decide +kernel
theorem dL_law_696 : decode code 696 = .ok (.iconst 0, 1) := by decide +kernel
theorem dL_law_697 : decode code 697 = .ok (.ireturn, 1) := by decide +kernel
theorem dL_law_698 : decode code 698 = .ok (.aload_n 1, 1) := by decide +kernel
theorem dL_law_699 : decode code 699 = .ok (.aload_n 0, 1) := by decide +kernel
theorem dL_law_700 : decode code 700 = .ok (.iload_n 3, 1) := by decide +kernel
theorem dL_law_701 : decode code 701 = .ok (.iconst 1, 1) := by decide +kernel
theorem dL_law_702 : decode code 702 = .ok (.iadd, 1) := by decide +kernel
theorem dL_law_703 : decode code 703 = .ok (.iaload, 1) := by decide +kernel
theorem dL_law_704 : decode code 704 = .ok (.invokevirtual 92, 3) := by decide +kernel
theorem dL_law_707 : decode code 707 = .ok (.aload_n 2, 1) := by decide +kernel
theorem dL_law_708 : decode code 708 = .ok (.aload_n 0, 1) := by decide +kernel
theorem dL_law_709 : decode code 709 = .ok (.iload_n 3, 1) := by decide +kernel
theorem dL_law_710 : decode code 710 = .ok (.iconst 1, 1) := by decide +kernel
theorem dL_law_711 : decode code 711 = .ok (.iadd, 1) := by decide +kernel
theorem dL_law_712 : decode code 712 = .ok (.iaload, 1) := by decide +kernel
theorem dL_law_713 : decode code 713 = .ok (.invokevirtual 95, 3) := by decide +kernel
theorem dL_law_716 : decode code 716 = .ok (.if_icmp .eq 463, 3) := by decide +kernel
theorem dL_law_719 : decode code 719 = .ok (.iconst 0, 1) := by decide +kernel
theorem dL_law_720 : decode code 720 = .ok (.ireturn, 1) := by decide +kernel
theorem dL_law_721 : decode code 721 = .ok (.aload_n 1, 1) := by decide +kernel
theorem dL_law_722 : decode code 722 = .ok (.invokevirtual 96, 3) := by decide +kernel
theorem dL_law_725 : decode code 725 = .ok (.aload_n 2, 1) := by decide +kernel
theorem dL_law_726 : decode code 726 = .ok (.invokevirtual 99, 3) := by decide +kernel
theorem dL_law_729 : decode code 729 = .ok (.if_icmp .eq 450, 3) := by decide +kernel
theorem dL_law_732 : decode code 732 = .ok (.iconst 0, 1) := by decide +kernel
theorem dL_law_733 : decode code 733 = .ok (.ireturn, 1) := by decide +kernel
theorem dL_law_734 : decode code 734 = .ok (.aload_n 1, 1) := by decide +kernel
theorem dL_law_735 : decode code 735 = .ok (.aload_n 0, 1) := by decide +kernel
theorem dL_law_736 : decode code 736 = .ok (.iload_n 3, 1) := by decide +kernel
theorem dL_law_737 : decode code 737 = .ok (.iconst 1, 1) := by decide +kernel
theorem dL_law_738 : decode code 738 = .ok (.iadd, 1) := by decide +kernel
theorem dL_law_739 : decode code 739 = .ok (.iaload, 1) := by decide +kernel
theorem dL_law_740 : decode code 740 = .ok (.aload_n 0, 1) := by decide +kernel
theorem dL_law_741 : decode code 741 = .ok (.iload_n 3, 1) := by decide +kernel
theorem dL_law_742 : decode code 742 = .ok (.iconst 2, 1) := by decide +kernel
theorem dL_law_743 : decode code 743 = .ok (.iadd, 1) := by decide +kernel
theorem dL_law_744 : decode code 744 = .ok (.iaload, 1) := by decide +kernel
theorem dL_law_745 : decode code 745 = .ok (.invokevirtual 100, 3) := by decide +kernel
theorem dL_law_748 : decode code 748 = .ok (.aload_n 2, 1) := by decide +kernel
theorem dL_law_749 : decode code 749 = .ok (.aload_n 0, 1) := by decide +kernel
theorem dL_law_750 : decode code 750 = .ok (.iload_n 3, 1) := by decide +kernel
theorem dL_law_751 : decode code 751 = .ok (.iconst 1, 1) := by decide +kernel
theorem dL_law_752 : decode code 752 = .ok (.iadd, 1) := by decide +kernel
theorem dL_law_753 : decode code 753 = .ok (.iaload, 1) := by decide +kernel
theorem dL_law_754 : decode code 754 = .ok (.aload_n 0, 1) := by decide +kernel
theorem dL_law_755 : decode code 755 = .ok (.iload_n 3, 1) := by decide +kernel
theorem dL_law_756 : decode code 756 = .ok (.iconst 2, 1) := by decide +kernel
theorem dL_law_757 : decode code 757 = .ok (.iadd, 1) := by decide +kernel
theorem dL_law_758 : decode code 758 = .ok (.iaload, 1) := by decide +kernel
theorem dL_law_759 : decode code 759 = .ok (.invokevirtual 103, 3) := by decide +kernel
theorem dL_law_762 : decode code 762 = .ok (.if_icmp .eq 417, 3) := by decide +kernel
theorem dL_law_765 : decode code 765 = .ok (.iconst 0, 1) := by decide +kernel
theorem dL_law_766 : decode code 766 = .ok (.ireturn, 1) := by decide +kernel
theorem dL_law_767 : decode code 767 = .ok (.aload_n 1, 1) := by decide +kernel
theorem dL_law_768 : decode code 768 = .ok (.aload_n 0, 1) := by decide +kernel
theorem dL_law_769 : decode code 769 = .ok (.iload_n 3, 1) := by decide +kernel
theorem dL_law_770 : decode code 770 = .ok (.iconst 1, 1) := by decide +kernel
theorem dL_law_771 : decode code 771 = .ok (.iadd, 1) := by decide +kernel
theorem dL_law_772 : decode code 772 = .ok (.iaload, 1) := by decide +kernel
theorem dL_law_773 : decode code 773 = .ok (.aload_n 0, 1) := by decide +kernel
theorem dL_law_774 : decode code 774 = .ok (.iload_n 3, 1) := by decide +kernel
theorem dL_law_775 : decode code 775 = .ok (.iconst 2, 1) := by decide +kernel
theorem dL_law_776 : decode code 776 = .ok (.iadd, 1) := by decide +kernel
theorem dL_law_777 : decode code 777 = .ok (.iaload, 1) := by decide +kernel
theorem dL_law_778 : decode code 778 = .ok (.invokevirtual 104, 3) := by decide +kernel
theorem dL_law_781 : decode code 781 = .ok (.aload_n 2, 1) := by decide +kernel
