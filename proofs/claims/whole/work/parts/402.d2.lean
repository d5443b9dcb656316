theorem dlw_450 : decode code 450 = .ok (.iadd, 1) := by decide +kernel
theorem dlw_451 : decode code 451 = .ok (.iaload, 1) := by decide +kernel
theorem dlw_452 : decode code 452 = .ok (.aload_n 0, 1) := by decide +kernel
theorem dlw_453 : decode code 453 = .ok (.iload_n 3, 1) := by decide +kernel
theorem dlw_454 : decode code 454 = .ok (.iconst 3, 1) := by decide +kernel
theorem dlw_455 : decode code 455 = .ok (.iadd, 1) := by decide +kernel
theorem dlw_456 : decode code 456 = .ok (.iaload, 1) := by decide +kernel
theorem dlw_457 : decode code 457 = .ok (.aload_n 0, 1) := by decide +kernel
theorem dlw_458 : decode code 458 = .ok (.iload_n 3, 1) := by decide +kernel
theorem dlw_459 : decode code 459 = .ok (.iconst 4, 1) := by decide +kernel
theorem dlw_460 : decode code 460 = .ok (.iadd, 1) := by decide +kernel
theorem dlw_461 : decode code 461 = .ok (.iaload, 1) := by decide +kernel
theorem dlw_462 : decode code 462 = .ok (.aload_n 0, 1) := by decide +kernel
theorem dlw_463 : decode code 463 = .ok (.iload_n 3, 1) := by decide +kernel
theorem dlw_464 : decode code 464 = .ok (.iconst 5, 1) := by decide +kernel
theorem dlw_465 : decode code 465 = .ok (.iadd, 1) := by decide +kernel
theorem dlw_466 : decode code 466 = .ok (.iaload, 1) := by decide +kernel
theorem dlw_467 : decode code 467 = .ok (.invokevirtual 45, 3) := by decide +kernel
theorem dlw_470 : decode code 470 = .ok (.aload_n 2, 1) := by decide +kernel
theorem dlw_471 : decode code 471 = .ok (.aload_n 0, 1) := by decide +kernel
theorem dlw_472 : decode code 472 = .ok (.iload_n 3, 1) := by decide +kernel
theorem dlw_473 : decode code 473 = .ok (.iconst 1, 1) := by decide +kernel
theorem dlw_474 : decode code 474 = .ok (.iadd, 1) := by decide +kernel
theorem dlw_475 : decode code 475 = .ok (.iaload, 1) := by decide +kernel
theorem dlw_476 : decode code 476 = .ok (.aload_n 0, 1) := by decide +kernel
theorem dlw_477 : decode code 477 = .ok (.iload_n 3, 1) := by decide +kernel
theorem dlw_478 : decode code 478 = .ok (.iconst 2, 1) := by decide +kernel
theorem dlw_479 : decode code 479 = .ok (.iadd, 1) := by decide +kernel
theorem dlw_480 : decode code 480 = .ok (.iaload, 1) := by decide +kernel
theorem dlw_481 : decode code 481 = .ok (.aload_n 0, 1) := by decide +kernel
theorem dlw_482 : decode code 482 = .ok (.iload_n 3, 1) := by decide +kernel
theorem dlw_483 : decode code 483 = .ok (.iconst 3, 1) := by decide +kernel
theorem dlw_484 : decode code 484 = .ok (.iadd, 1) := by decide +kernel
theorem dlw_485 : decode code 485 = .ok (.iaload, 1) := by decide +kernel
theorem dlw_486 : decode code 486 = .ok (.aload_n 0, 1) := by decide +kernel
theorem dlw_487 : decode code 487 = .ok (.iload_n 3, 1) := by decide +kernel
theorem dlw_488 : decode code 488 = .ok (.iconst 4, 1) := by decide +kernel
theorem dlw_489 : decode code 489 = .ok (.iadd, 1) := by decide +kernel
theorem dlw_490 : decode code 490 = .ok (.iaload, 1) := by decide +kernel
theorem dlw_491 : decode code 491 = .ok (.aload_n 0, 1) := by decide +kernel
theorem dlw_492 : decode code 492 = .ok (.iload_n 3, 1) := by decide +kernel
theorem dlw_493 : decode code 493 = .ok (.iconst 5, 1) := by decide +kernel
theorem dlw_494 : decode code 494 = .ok (.iadd, 1) := by decide +kernel
theorem dlw_495 : decode code 495 = .ok (.iaload, 1) := by decide +kernel
theorem dlw_496 : decode code 496 = .ok (.invokevirtual 49, 3) := by decide +kernel
theorem dlw_499 : decode code 499 = .ok (.if_icmp .eq 786, 3) := by decide +kernel
theorem dlw_502 : decode code 502 = .ok (.iconst 0, 1) := by decide +kernel
theorem dlw_503 : decode code 503 = .ok (.ireturn, 1) := by decide +kernel
theorem dlw_504 : decode code 504 = .ok (.aload_n 1, 1) := by decide +kernel
theorem dlw_505 : decode code 505 = .ok (.aload_n 0, 1) := by decide +kernel
theorem dlw_506 : decode code 506 = .ok (.iload_n 3, 1) := by decide +kernel
theorem dlw_507 : decode code 507 = .ok (.iconst 1, 1) := by decide +kernel
theorem dlw_508 : decode code 508 = .ok (.iadd, 1) := by decide +kernel
theorem dlw_509 : decode code 509 = .ok (.iaload, 1) := by decide +kernel
theorem dlw_510 : decode code 510 = .ok (.invokevirtual 50, 3) := by decide +kernel
theorem dlw_513 : decode code 513 = .ok (.aload_n 2, 1) := by decide +kernel
theorem dlw_514 : decode code 514 = .ok (.aload_n 0, 1) := by decide +kernel
theorem dlw_515 : decode code 515 = .ok (.iload_n 3, 1) := by decide +kernel
theorem dlw_516 : decode code 516 = .ok (.iconst 1, 1) := by decide +kernel
theorem dlw_517 : decode code 517 = .ok (.iadd, 1) := by decide +kernel
theorem dlw_518 : decode code 518 = .ok (.iaload, 1) := by decide +kernel
theorem dlw_519 : decode code 519 = .ok (.invokevirtual 54, 3) := by decide +kernel
theorem dlw_522 : decode code 522 = .ok (.if_icmp .eq 763, 3) := by decide +kernel
theorem dlw_525 : decode code 525 = .ok (.iconst 0, 1) := by decide +kernel
theorem dlw_526 : decode code 526 = .ok (.ireturn, 1) := by decide +kernel
theorem dlw_527 : decode code 527 = .ok (.aload_n 1, 1) := by decide +kernel
theorem dlw_528 : decode code 528 = .ok (.aload_n 0, 1) := by decide +kernel
theorem dlw_529 : decode code 529 = .ok (.iload_n 3, 1) := by decide +kernel
theorem dlw_530 : decode code 530 = .ok (.iconst 1, 1) := by decide +kernel
theorem dlw_531 : decode code 531 = .ok (.iadd, 1) := by decide +kernel
theorem dlw_532 : decode code 532 = .ok (.iaload, 1) := by decide +kernel
theorem dlw_533 : decode code 533 = .ok (.invokevirtual 55, 3) := by decide +kernel
theorem dlw_536 : decode code 536 = .ok (.aload_n 2, 1) := by decide +kernel
theorem dlw_537 : decode code 537 = .ok (.aload_n 0, 1) := by decide +kernel
theorem dlw_538 : decode code 538 = .ok (.iload_n 3, 1) := by decide +kernel
theorem dlw_539 : decode code 539 = .ok (.iconst 1, 1) := by decide +kernel
theorem dlw_540 : decode code 540 = .ok (.iadd, 1) := by decide +kernel
theorem dlw_541 : decode code 541 = .ok (.iaload, 1) := by decide +kernel
theorem dlw_542 : decode code 542 = .ok (.invokevirtual 58, 3) := by decide +kernel
theorem dlw_545 : decode code 545 = .ok (.if_icmp .eq 740, 3) := by decide +kernel
theorem dlw_548 : decode code 548 = .ok (.iconst 0, 1) := by decide +kernel
theorem dlw_549 : decode code 549 = .ok (.ireturn, 1) := by decide +kernel
theorem dlw_550 : decode code 550 = .ok (.aload_n 1, 1) := by decide +kernel
theorem dlw_551 : decode code 551 = .ok (.invokevirtual 59, 3) := by decide +kernel
theorem dlw_554 : decode code 554 = .ok (.aload_n 2, 1) := by decide +kernel
theorem dlw_555 : decode code 555 = .ok (.invokevirtual 62, 3) := by decide +kernel
theorem dlw_558 : decode code 558 = .ok (.if_icmp .eq 727, 3) := by decide +kernel
theorem dlw_561 : decode code 561 = .ok (.iconst 0, 1) := by decide +kernel
theorem dlw_562 : decode code 562 = .ok (.ireturn, 1) := by decide +kernel
theorem dlw_563 : decode code 563 = .ok (.aload_n 1, 1) := by decide +kernel
theorem dlw_564 : decode code 564 = .ok (.invokevirtual 63, 3) := by decide +kernel
theorem dlw_567 : decode code 567 = .ok (.aload_n 2, 1) := by decide +kernel
theorem dlw_568 : decode code 568 = .ok (.invokevirtual 66, 3) := by decide +kernel
theorem dlw_571 : decode code 571 = .ok (.if_icmp .eq 714, 3) := by decide +kernel
theorem dlw_574 : decode code 574 = .ok (.iconst 0, 1) := by decide +kernel
theorem dlw_575 : decode code 575 = .ok (.ireturn, 1) := by decide +kernel
theorem dlw_576 : decode code 576 = .ok (.aload_n 1, 1) := by decide +kernel
theorem dlw_577 : decode code 577 = .ok (.invokevirtual 67, 3) := by decide +kernel
theorem dlw_580 : decode code 580 = .ok (.aload_n 2, 1) := by decide +kernel
theorem dlw_581 : decode code 581 = .ok (.invokevirtual 70, 3) := by decide +kernel
theorem dlw_584 : decode code 584 = .ok (.if_icmp .eq 701, 3) := by decide +kernel
theorem dlw_587 : decode code 587 = .ok (.iconst 0, 1) := by decide +kernel
theorem dlw_588 : decode code 588 = .ok (.ireturn, 1) := by decide +kernel
theorem dlw_589 : decode code 589 = .ok (.aload_n 1, 1) := by decide +kernel
theorem dlw_590 : decode code 590 = .ok (.invokevirtual 71, 3) := by decide +kernel
theorem dlw_593 : decode code 593 = .ok (.aload_n 2, 1) := by decide +kernel
theorem dlw_594 : decode code 594 = .ok (.invokevirtual 74, 3) := by decide +kernel
theorem dlw_597 : decode code 597 = .ok (.if_icmp .eq 688, 3) := by decide +kernel
theorem dlw_600 : decode code 600 = .ok (.iconst 0, 1) := by decide +kernel
theorem dlw_601 : decode code 601 = .ok (.ireturn, 1) := by decide +kernel
theorem dlw_602 : decode code 602 = .ok (.aload_n 1, 1) := by decide +kernel
theorem dlw_603 : decode code 603 = .ok (.invokevirtual 75, 3) := by decide +kernel
theorem dlw_606 : decode code 606 = .ok (.aload_n 2, 1) := by decide +kernel
theorem dlw_607 : decode code 607 = .ok (.invokevirtual 78, 3) := by decide +kernel
theorem dlw_610 : decode code 610 = .ok (.if_icmp .eq 675, 3) := by decide +kernel
theorem dlw_613 : decode code 613 = .ok (.iconst 0, 1) := by decide +kernel
theorem dlw_614 : decode code 614 = .ok (.ireturn, 1) := by decide +kernel
theorem dlw_615 : decode code 615 = .ok (.aload_n 1, 1) := by decide +kernel
theorem dlw_616 : decode code 616 = .ok (.aload_n 0, 1) := by decide +kernel
theorem dlw_617 : decode code 617 = .ok (.iload_n 3, 1) := by decide +kernel
theorem dlw_618 : decode code 618 = .ok (.iconst 1, 1) := by decide +kernel
theorem dlw_619 : decode code 619 = .ok (.iadd, 1) := by decide +kernel
theorem dlw_620 : decode code 620 = .ok (.iaload, 1) := by decide +kernel
theorem dlw_621 : decode code 621 = .ok (.invokevirtual 79, 3) := by decide +kernel
theorem dlw_624 : decode code 624 = .ok (.aload_n 2, 1) := by decide +kernel
theorem dlw_625 : decode code 625 = .ok (.aload_n 0, 1) := by decide +kernel
theorem dlw_626 : decode code 626 = .ok (.iload_n 3, 1) := by decide +kernel
theorem dlw_627 : decode code 627 = .ok (.iconst 1, 1) := by decide +kernel
theorem dlw_628 : decode code 628 = .ok (.iadd, 1) := by decide +kernel
theorem dlw_629 : decode code 629 = .ok (.iaload, 1) := by decide +kernel
theorem dlw_630 : decode code 630 = .ok (.invokevirtual 82, 3) := by decide +kernel
theorem dlw_633 : decode code 633 = .ok (.if_icmp .eq 652, 3) := by decide +kernel
theorem dlw_636 : decode code 636 = .ok (.iconst 0, 1) := by decide +kernel
theorem dlw_637 : decode code 637 = .ok (.ireturn, 1) := by decide +kernel
theorem dlw_638 : decode code 638 = .ok (.aload_n 1, 1) := by decide +kernel
theorem dlw_639 : decode code 639 = .ok (.aload_n 0, 1) := by decide +kernel
theorem dlw_640 : decode code 640 = .ok (.iload_n 3, 1) := by decide +kernel
theorem dlw_641 : decode code 641 = .ok (.iconst 1, 1) := by decide +kernel
theorem dlw_642 : decode code 642 = .ok (.iadd, 1) := by decide +kernel
theorem dlw_643 : decode code 643 = .ok (.iaload, 1) := by decide +kernel
theorem dlw_644 : decode code 644 = .ok (.aload_n 0, 1) := by decide +kernel
theorem dlw_645 : decode code 645 = .ok (.iload_n 3, 1) := by decide +kernel
theorem dlw_646 : decode code 646 = .ok (.iconst 2, 1) := by decide +kernel
theorem dlw_647 : decode code 647 = .ok (.iadd, 1) := by decide +kernel
theorem dlw_648 : decode code 648 = .ok (.iaload, 1) := by decide +kernel
theorem dlw_649 : decode code 649 = .ok (.invokevirtual 83, 3) := by decide +kernel
theorem dlw_652 : decode code 652 = .ok (.aload_n 2, 1) := by decide +kernel
theorem dlw_653 : decode code 653 = .ok (.aload_n 0, 1) := by decide +kernel
theorem dlw_654 : decode code 654 = .ok (.iload_n 3, 1) := by decide +kernel
theorem dlw_655 : decode code 655 = .ok (.iconst 1, 1) := by decide +kernel
theorem dlw_656 : decode code 656 = .ok (.iadd, 1) := by decide +kernel
theorem dlw_657 : decode code 657 = .ok (.iaload, 1) := by decide +kernel
theorem dlw_658 : decode code 658 = .ok (.aload_n 0, 1) := by decide +kernel
theorem dlw_659 : decode code 659 = .ok (.iload_n 3, 1) := by decide +kernel
theorem dlw_660 : decode code 660 = .ok (.iconst 2, 1) := by decide +kernel
theorem dlw_661 : decode code 661 = .ok (.iadd, 1) := by decide +kernel
theorem dlw_662 : decode code 662 = .ok (.iaload, 1) := by decide +kernel
theorem dlw_663 : decode code 663 = .ok (.invokevirtual 86, 3) := by decide +kernel
theorem dlw_666 : decode code 666 = .ok (.if_icmp .eq 619, 3) := by decide +kernel
theorem dlw_669 : decode code 669 = .ok (.iconst 0, 1) := by decide +kernel
theorem dlw_670 : decode code 670 = .ok (.ireturn, 1) := by decide +kernel
theorem dlw_671 : decode code 671 = .ok (.aload_n 1, 1) := by decide +kernel
theorem dlw_672 : decode code 672 = .ok (.aload_n 0, 1) := by decide +kernel
theorem dlw_673 : decode code 673 = .ok (.iload_n 3, 1) := by decide +kernel
theorem dlw_674 : decode code 674 = .ok (.iconst 1, 1) := by decide +kernel
theorem dlw_675 : decode code 675 = .ok (.iadd, 1) := by decide +kernel
theorem dlw_676 : decode code 676 = .ok (.iaload, 1) := by decide +kernel
theorem dlw_677 : decode code 677 = .ok (.aload_n 0, 1) := by decide +kernel
theorem dlw_678 : decode code 678 = .ok (.iload_n 3, 1) := by decide +kernel
theorem dlw_679 : decode code 679 = .ok (.iconst 2, 1) := by decide +kernel
theorem dlw_680 : decode code 680 = .ok (.iadd, 1) := by decide +kernel
theorem dlw_681 : decode code 681 = .ok (.iaload, 1) := by decide +kernel
theorem dlw_682 : decode code 682 = .ok (.invokevirtual 87, 3) := by decide +kernel
theorem dlw_685 : decode code 685 = .ok (.aload_n 2, 1) := by decide +kernel
theorem dlw_686 : decode code 686 = .ok (.aload_n 0, 1) := by decide +kernel
theorem dlw_687 : decode code 687 = .ok (.iload_n 3, 1) := by decide +kernel
theorem dlw_688 : decode code 688 = .ok (.iconst 1, 1) := by decide +kernel
theorem dlw_689 : decode code 689 = .ok (.iadd, 1) := by decide +kernel
theorem dlw_690 : decode code 690 = .ok (.iaload, 1) := by decide +kernel
theorem dlw_691 : decode code 691 = .ok (.aload_n 0, 1) := by decide +kernel
theorem dlw_692 : decode code 692 = .ok (.iload_n 3, 1) := by decide +kernel
theorem dlw_693 : decode code 693 = .ok (.iconst 2, 1) := by decide +kernel
theorem dlw_694 : decode code 694 = .ok (.iadd, 1) := by decide +kernel
theorem dlw_695 : decode code 695 = .ok (.iaload, 1) := by decide +kernel
theorem dlw_696 : decode code 696 = .ok (.invokevirtual 90, 3) := by decide +kernel
theorem dlw_699 : decode code 699 = .ok (.if_icmp .eq 586, 3) := by decide +kernel
theorem dlw_702 : decode code 702 = .ok (.iconst 0, 1) := by decide +kernel
theorem dlw_703 : decode code 703 = .ok (.ireturn, 1) := by decide +kernel
theorem dlw_704 : decode code 704 = .ok (.aload_n 1, 1) := by decide +kernel
theorem dlw_705 : decode code 705 = .ok (.invokevirtual 91, 3) := by decide +kernel
theorem dlw_708 : decode code 708 = .ok (.aload_n 2, 1) := by decide +kernel
theorem dlw_709 : decode code 709 = .ok (.invokevirtual 94, 3) := by decide +kernel
theorem dlw_712 : decode code 712 = .ok (.if_icmp .eq 573, 3) := by decide +kernel
theorem dlw_715 : decode code 715 = .ok (.iconst 0, 1) := by decide +kernel
theorem dlw_716 : decode code 716 = .ok (.ireturn, 1) := by decide +kernel
theorem dlw_717 : decode code 717 = .ok (.aload_n 1, 1) := by decide +kernel
theorem dlw_718 : decode code 718 = .ok (.aload_n 0, 1) := by decide +kernel
theorem dlw_719 : decode code 719 = .ok (.iload_n 3, 1) := by decide +kernel
theorem dlw_720 : decode code 720 = .ok (.iconst 1, 1) := by decide +kernel
theorem dlw_721 : decode code 721 = .ok (.iadd, 1) := by decide +kernel
theorem dlw_722 : decode code 722 = .ok (.iaload, 1) := by decide +kernel
theorem dlw_723 : decode code 723 = .ok (.aload_n 0, 1) := by decide +kernel
theorem dlw_724 : decode code 724 = .ok (.iload_n 3, 1) := by decide +kernel
theorem dlw_725 : decode code 725 = .ok (.iconst 2, 1) := by decide +kernel
theorem dlw_726 : decode code 726 = .ok (.iadd, 1) := by decide +kernel
theorem dlw_727 : decode code 727 = .ok (.iaload, 1) := by decide +kernel
theorem dlw_728 : decode code 728 = .ok (.invokevirtual 95, 3) := by decide +kernel
theorem dlw_731 : decode code 731 = .ok (.aload_n 2, 1) := by decide +kernel
theorem dlw_732 : decode code 732 = .ok (.aload_n 0, 1) := by decide +kernel
theorem dlw_733 : decode code 733 = .ok (.iload_n 3, 1) := by decide +kernel
theorem dlw_734 : decode code 734 = .ok (.iconst 1, 1) := by decide +kernel
theorem dlw_735 : decode code 735 = .ok (.iadd, 1) := by decide +kernel
theorem dlw_736 : decode code 736 = .ok (.iaload, 1) := by decide +kernel
theorem dlw_737 : decode code 737 = .ok (.aload_n 0, 1) := by decide +kernel
theorem dlw_738 : decode code 738 = .ok (.iload_n 3, 1) := by decide +kernel
theorem dlw_739 : decode code 739 = .ok (.iconst 2, 1) := by decide +kernel
theorem dlw_740 : decode code 740 = .ok (.iadd, 1) := by decide +kernel
theorem dlw_741 : decode code 741 = .ok (.iaload, 1) := by decide +kernel
theorem dlw_742 : decode code 742 = .ok (.invokevirtual 98, 3) := by decide +kernel
theorem dlw_745 : decode code 745 = .ok (.if_icmp .eq 540, 3) := by decide +kernel
theorem dlw_748 : decode code 748 = .ok (.iconst 0, 1) := by decide +kernel
theorem dlw_749 : decode code 749 = .ok (.ireturn, 1) := by decide +kernel
theorem dlw_750 : decode code 750 = .ok (.aload_n 1, 1) := by decide +kernel
theorem dlw_751 : decode code 751 = .ok (.invokevirtual 99, 3) := by decide +kernel
theorem dlw_754 : decode code 754 = .ok (.aload_n 2, 1) := by decide +kernel
theorem dlw_755 : decode code 755 = .ok (.invokevirtual 102, 3) := by decide +kernel
theorem dlw_758 : decode code 758 = .ok (.if_icmp .eq 527, 3) := by decide +kernel
theorem dlw_761 : decode code 761 = .ok (.iconst 0, 1) := by decide +kernel
theorem dlw_762 : decode code 762 = .ok (.ireturn, 1) := by decide +kernel
theorem dlw_763 : decode code 763 = .ok (.aload_n 1, 1) := by decide +kernel
